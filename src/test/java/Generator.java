import java.util.ArrayList;
import java.util.List;
import java.util.Random;

/** Makes class files, many of them SOUND: it counts the depth and lets branches lead where the depth is right. */
final class Generator {
    private final Random random;
    private int methods;
    private int[] args;
    private int locals;
    private int stack;
    private final List<int[]> code = new ArrayList<>();
    private final List<Integer> depths = new ArrayList<>();

    Generator(long seed) {
        random = new Random(seed);
    }

    int below(int n) {
        return random.nextInt(n);
    }

    /** Mostly small, now and then any. */
    int number() {
        return below(8) == 0 ? random.nextInt() : below(12) - 3;
    }

    int[] bytes() {
        ClassBytes file = new ClassBytes();
        methods = 1 + below(4);
        args = new int[methods];
        int names = below(20);
        for (int m = 0; m < methods; m++) {
            args[m] = below(3);
        }
        for (int m = 0; m < methods; m++) {
            addMethod(file, (char) ('a' + names + m), m);
        }
        int[] bytes = file.bytes();
        if (below(4) == 0) {
            bytes[below(bytes.length)] = below(256);
        }
        if (below(40) == 0) {
            bytes = java.util.Arrays.copyOf(bytes, below(bytes.length + 3));
        }
        return bytes;
    }

    private void addMethod(ClassBytes file, char name, int m) {
        locals = args[m] + below(7 - args[m]);
        stack = 1 + below(8);
        code.clear();
        depths.clear();
        int most = 6 + below(35);
        int depth = 0;
        for (int n = args[m]; n < locals && below(4) != 0; n++) {
            add(0, 1, below(256));
            add(1, 3, n);
        }
        while (length() + 6 < most) {
            depth = addAny(depth);
        }
        if (depth == 0) {
            add(depth, 1, below(256));
            depth++;
        }
        add(depth, below(6) == 0 ? 15 : 14);
        aimBranches();
        file.method(name, args[m], locals, stack, flat());
        addHandlers(file);
    }

    private void add(int depth, int... insn) {
        code.add(insn);
        depths.add(depth);
    }

    private int length() {
        return place(code.size());
    }

    private int place(int index) {
        int place = 0;
        for (int i = 0; i < index; i++) {
            place += code.get(i).length;
        }
        return place;
    }

    private int addAny(int depth) {
        int op = below(22);
        int n = locals == 0 ? 0 : below(locals);
        if (op >= 4 && op <= 7 && depth >= 2) {
            add(depth, op);
            return depth - 1;
        }
        if (op == 8 && depth >= 1 && depth < stack) {
            add(depth, 8);
            return depth + 1;
        }
        if ((op == 9 || op == 3) && depth >= 1) {
            add(depth, op == 3 && locals > 0 ? new int[] {3, n} : new int[] {9});
            return depth - 1;
        }
        if (op == 10 && below(2) == 0) {
            add(depth, below(2) == 0 ? new int[] {10, 0} : new int[] {20, 0, 0});
            return below(2);
        }
        if ((op == 11 || op == 12) && depth >= 1) {
            add(depth, below(3) != 0 ? new int[] {op, 0} : new int[] {op + 10, 0, 0});
            return depth - 1;
        }
        if (op == 13) {
            int k = below(methods);
            if (depth >= args[k] && depth + 1 - args[k] <= stack) {
                add(depth, 13, k);
                return depth + 1 - args[k];
            }
        }
        if ((op == 14 || op == 15) && depth >= 1) {
            add(depth, op);
            return below(2);
        }
        if (op == 16 && locals > 0) {
            add(depth, 16, n, below(256));
            return depth;
        }
        if (op == 0) {
            add(depth, 0);
            return depth;
        }
        if (depth < stack) {
            add(depth, op % 2 == 0 && locals > 0 ? new int[] {2, n} : new int[] {1, number() & 255});
            return depth + 1;
        }
        add(depth, 9);
        return depth - 1;
    }

    private void aimBranches() {
        for (int i = 0; i < code.size(); i++) {
            int[] insn = code.get(i);
            if (!Model.branch(insn[0])) {
                continue;
            }
            int after = depths.get(i) - (insn[0] % 10 == 0 ? 0 : 1);
            int way = 0;
            for (int tries = 0; tries < 40; tries++) {
                int to = below(code.size());
                way = place(to) - place(i);
                if (depths.get(to) == after && (insn[0] >= 20 || Math.abs(way) <= 24) && (way > 0 || below(3) == 0)) {
                    break;
                }
            }
            insn[insn.length - 1] = way & 255;
            if (insn[0] >= 20) {
                insn[1] = way >> 8 & 255;
            }
        }
    }

    private void addHandlers(ClassBytes file) {
        int most = below(3) == 0 ? 3 : below(3);
        for (int tries = 0; tries < 30 && most > 0; tries++) {
            int start = below(code.size());
            int end = start + 1 + below(code.size() - start);
            int at = below(code.size());
            if (depths.get(at) == 1) {
                file.handler(place(start), place(end), place(at), below(3) == 0 ? below(10) : below(3));
                most--;
            }
        }
    }

    private int[] flat() {
        return code.stream().flatMapToInt(java.util.Arrays::stream).toArray();
    }
}
