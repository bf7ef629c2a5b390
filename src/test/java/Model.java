import java.util.ArrayDeque;
import java.util.ArrayList;
import java.util.Arrays;
import java.util.Deque;
import java.util.HashMap;
import java.util.HashSet;
import java.util.List;
import java.util.Map;
import java.util.Set;

/**
 * The document once more, as plainly as the Java library lets one write it: states are gone through one by one, code is
 * a list of instructions that point at one another, a CALL is a call. ModelTest asks it and the program the same.
 */
final class Model {
    static final int NONE = -1;

    /** Handlers stand as places here; in Insn form only while a transformer works. */
    static final class Method {
        int name;
        int args;
        int locals;
        int stack;
        int[] code;
        List<int[]> handlers = new ArrayList<>();
        /** By place, from each reached state. */
        Map<Integer, Integer> depths = new HashMap<>();
        Set<Integer> places = new HashSet<>();

        Method withCode(int[] newCode, List<int[]> newHandlers) {
            Method other = new Method();
            other.name = name;
            other.args = args;
            other.locals = locals;
            other.stack = stack;
            other.code = newCode;
            other.handlers = newHandlers;
            return other;
        }
    }

    private static final class Insn {
        int op;
        int[] rest = new int[0];
        Insn target;
        int place;
        /** What was put before this one, in order. */
        List<Insn> before = new ArrayList<>();

        Insn(int op, int... rest) {
            this.op = op;
            this.rest = rest;
        }

        Insn entry() {
            return before.isEmpty() ? this : before.get(0);
        }

        int size() {
            return Model.size(op);
        }
    }

    private static final class Thrown extends Exception {
        private static final long serialVersionUID = 1L;
        final int number;

        Thrown(int number) {
            super(null, null, false, false);
            this.number = number;
        }
    }

    private static final class Ended extends Exception {
        private static final long serialVersionUID = 1L;
        final int how;

        Ended(int how) {
            super(null, null, false, false);
            this.how = how;
        }
    }

    final List<Integer> bytes = new ArrayList<>();
    List<Method> loaded = new ArrayList<>();
    List<Method> woven = null;
    final List<int[]> chain = new ArrayList<>();
    Set<Integer> failures = new HashSet<>();
    int value = 0;
    int used = 0;
    List<Integer> marks = new ArrayList<>();
    Map<Integer, Integer> probes = new HashMap<>();
    private int fuel;

    boolean put(int word, int n) {
        if (n < 1 || n > 4 || bytes.size() + n > 240) {
            return false;
        }
        for (int i = n; i > 0; i--) {
            bytes.add(word >> (i - 1) * 8 & 255);
        }
        return true;
    }

    void clear() {
        bytes.clear();
    }

    // ---- the class file

    private static final class Bad extends RuntimeException {
        private static final long serialVersionUID = 1L;
        final int place;

        Bad(int place) {
            super(null, null, false, false);
            this.place = place;
        }
    }

    private int cursor;

    private int next(int low, int high) {
        if (cursor >= bytes.size() || bytes.get(cursor) < low || bytes.get(cursor) > high) {
            throw new Bad(cursor);
        }
        return bytes.get(cursor++);
    }

    private List<Method> read() {
        cursor = 0;
        next(202, 202);
        int count = next(1, 4);
        List<Method> all = new ArrayList<>();
        for (int m = 0; m < count; m++) {
            Method method = new Method();
            method.name = next(97, 122);
            for (Method other : all) {
                if (other.name == method.name) {
                    throw new Bad(cursor - 1);
                }
            }
            method.args = next(0, 2);
            method.locals = next(method.args, 6);
            method.stack = next(1, 8);
            method.code = new int[next(1, 40)];
            for (int p = 0; p < method.code.length; p++) {
                method.code[p] = next(0, 255);
            }
            int handlers = next(0, 3);
            for (int h = 0; h < handlers; h++) {
                method.handlers.add(new int[] {next(0, 255), next(0, 255), next(0, 255), next(0, 9)});
            }
            all.add(method);
        }
        if (cursor < bytes.size()) {
            throw new Bad(cursor);
        }
        return all;
    }

    int load() {
        List<Method> all;
        try {
            all = read();
        } catch (Bad bad) {
            return -1 - bad.place;
        }
        for (int m = 0; m < all.size(); m++) {
            if (!wellFormed(all.get(m), all.size()) || !sound(all.get(m), all)) {
                return -1000 - m;
            }
        }
        loaded = all;
        woven = null;
        failures = new HashSet<>();
        return all.size();
    }

    static int size(int op) {
        return switch (op) {
            case 0, 4, 5, 6, 7, 8, 9, 14, 15, 32 -> 1;
            case 1, 2, 3, 10, 11, 12, 13, 30, 31 -> 2;
            case 16, 20, 21, 22 -> 3;
            default -> 0;
        };
    }

    static boolean branch(int op) {
        return op >= 10 && op <= 12 || op >= 20 && op <= 22;
    }

    static int way(int[] code, int p) {
        return code[p] < 20 ? (byte) code[p + 1] : (short) (code[p + 1] << 8 | code[p + 2]);
    }

    private static boolean wellFormed(Method method, int count) {
        int p = 0;
        int length = method.code.length;
        while (p < length) {
            int op = method.code[p];
            if (op >= 30 || size(op) == 0 || p + size(op) > length) {
                return false;
            }
            if ((op == 2 || op == 3 || op == 16) && method.code[p + 1] >= method.locals) {
                return false;
            }
            if (op == 13 && method.code[p + 1] >= count) {
                return false;
            }
            if (op >= 10 && op <= 12 && Math.abs(way(method.code, p)) > 24) {
                return false;
            }
            method.places.add(p);
            p += size(op);
        }
        for (int place : method.places) {
            if (branch(method.code[place]) && !method.places.contains(place + way(method.code, place))) {
                return false;
            }
        }
        for (int[] handler : method.handlers) {
            if (!method.places.contains(handler[0]) || !method.places.contains(handler[2]) || handler[1] <= handler[0]
                    || !method.places.contains(handler[1]) && handler[1] != length) {
                return false;
            }
        }
        return true;
    }

    // ---- states: each is {place, depth, set}

    static boolean sound(Method method, List<Method> all) {
        method.depths.clear();
        Set<List<Integer>> seen = new HashSet<>();
        Deque<List<Integer>> open = new ArrayDeque<>();
        open.add(List.of(0, 0, (1 << method.args) - 1));
        while (!open.isEmpty()) {
            List<Integer> state = open.remove();
            if (!seen.add(state)) {
                continue;
            }
            int p = state.get(0);
            int depth = state.get(1);
            int set = state.get(2);
            if (p >= method.code.length) {
                return false;
            }
            Integer before = method.depths.put(p, depth);
            if (before != null && before != depth) {
                return false;
            }
            int op = method.code[p];
            int n = p + 1 < method.code.length ? method.code[p + 1] : 0;
            if (depth < taken(op, n, all)) {
                return false;
            }
            if ((op == 2 || op == 16) && (set & 1 << n) == 0) {
                return false;
            }
            int after = depth + change(op, n, all);
            if (after > method.stack) {
                return false;
            }
            int setAfter = op == 3 ? set | 1 << n : set;
            if (op != 10 && op != 14 && op != 15 && op != 20 && op != 32) {
                open.add(List.of(p + size(op), after, setAfter));
            }
            if (branch(op)) {
                open.add(List.of(p + way(method.code, p), after, setAfter));
            }
            for (int[] handler : method.handlers) {
                if (handler[0] <= p && p < handler[1]) {
                    open.add(List.of(handler[2], 1, set));
                }
            }
        }
        return true;
    }

    private static int taken(int op, int n, List<Method> all) {
        return switch (op) {
            case 4, 5, 6, 7 -> 2;
            case 8, 3, 9, 11, 12, 21, 22, 14, 15, 32 -> 1;
            case 13 -> all.get(n).args;
            default -> 0;
        };
    }

    private static int change(int op, int n, List<Method> all) {
        return switch (op) {
            case 1, 2, 8 -> 1;
            case 3, 4, 5, 6, 7, 9, 11, 12, 21, 22 -> -1;
            case 13 -> 1 - all.get(n).args;
            default -> 0;
        };
    }

    // ---- the chain

    int transformer(boolean cover, int letter, int args) {
        if (letter != 0 && (letter < 'a' || letter > 'z') || args < -1 || args > 2 || chain.size() == 3) {
            return NONE;
        }
        chain.add(new int[] {cover ? 1 : 0, letter, args});
        return chain.size() - 1;
    }

    void unchain() {
        chain.clear();
    }

    int weave() {
        if (loaded.isEmpty()) {
            return NONE;
        }
        failures = new HashSet<>();
        woven = new ArrayList<>();
        int applied = 0;
        for (int m = 0; m < loaded.size(); m++) {
            Method method = loaded.get(m);
            for (int t = 0; t < chain.size(); t++) {
                int[] transformer = chain.get(t);
                if (transformer[1] != 0 && transformer[1] != method.name
                        || transformer[2] != -1 && transformer[2] != method.args) {
                    continue;
                }
                Method made = make(method, transformer[0] == 1, t);
                if (made == null) {
                    failures.add(m * 3 + t);
                } else {
                    method = made;
                    applied++;
                }
            }
            woven.add(method);
        }
        for (Method method : woven) {
            if (!sound(method, loaded)) {
                throw new AssertionError("what was woven is not sound");
            }
            for (int p = 0; p < method.code.length; p += size(method.code[p])) {
                method.places.add(p);
            }
        }
        return applied;
    }

    private static Method make(Method method, boolean cover, int t) {
        List<Insn> old = new ArrayList<>();
        Map<Integer, Insn> byPlace = new HashMap<>();
        for (int p = 0; p < method.code.length; p += size(method.code[p])) {
            int op = method.code[p];
            Insn insn = new Insn(op, Arrays.copyOfRange(method.code, p + 1, p + size(op)));
            byPlace.put(p, insn);
            old.add(insn);
        }
        for (int p : byPlace.keySet()) {
            if (branch(method.code[p])) {
                byPlace.get(p).target = byPlace.get(p + way(method.code, p));
            }
        }
        List<Insn> behind = new ArrayList<>();
        Insn end = new Insn(99);
        List<Insn> ahead = new ArrayList<>();
        if (cover) {
            putProbes(method, old, byPlace);
        } else {
            ahead.add(new Insn(30, 3 * t));
            for (Insn insn : old) {
                if (insn.op == 14) {
                    insn.before.add(new Insn(30, 3 * t + 1));
                }
            }
            behind.add(new Insn(30, 3 * t + 2));
            behind.add(new Insn(32));
        }
        List<Insn> line = new ArrayList<>(ahead);
        for (Insn insn : old) {
            line.addAll(insn.before);
            line.add(insn);
        }
        line.add(end);
        line.addAll(behind);
        int length = settle(line);
        List<int[]> handlers = new ArrayList<>();
        for (int[] handler : method.handlers) {
            Insn until = handler[1] == method.code.length ? end : byPlace.get(handler[1]).entry();
            handlers.add(new int[] {byPlace.get(handler[0]).entry().place, until.place,
                byPlace.get(handler[2]).entry().place, handler[3]});
        }
        if (!cover) {
            handlers.add(new int[] {0, end.place, end.place, 0});
        }
        if (length > 120 || handlers.size() > 5) {
            return null;
        }
        return method.withCode(write(line, length), handlers);
    }

    private static void putProbes(Method method, List<Insn> old, Map<Integer, Insn> byPlace) {
        Set<Insn> leaders = new HashSet<>();
        leaders.add(old.get(0));
        for (int i = 0; i < old.size(); i++) {
            if (old.get(i).target != null) {
                leaders.add(old.get(i).target);
            }
            if (i + 1 < old.size() && List.of(10, 11, 12, 14, 15, 20, 21, 22, 32).contains(old.get(i).op)) {
                leaders.add(old.get(i + 1));
            }
        }
        for (int[] handler : method.handlers) {
            leaders.add(byPlace.get(handler[2]));
        }
        int number = 0;
        for (Insn insn : old) {
            if (leaders.contains(insn)) {
                insn.before.add(new Insn(31, number++));
            }
        }
    }

    private static int settle(List<Insn> line) {
        while (true) {
            int place = 0;
            for (Insn insn : line) {
                insn.place = place;
                place += insn.size();
            }
            List<Insn> tooFar = new ArrayList<>();
            for (Insn insn : line) {
                if (insn.op >= 10 && insn.op <= 12 && Math.abs(insn.target.entry().place - insn.place) > 24) {
                    tooFar.add(insn);
                }
            }
            if (tooFar.isEmpty()) {
                return place;
            }
            for (Insn insn : tooFar) {
                insn.op += 10;
            }
        }
    }

    private static int[] write(List<Insn> line, int length) {
        int[] code = new int[length];
        for (Insn insn : line) {
            if (insn.size() == 0) {
                continue;
            }
            code[insn.place] = insn.op;
            if (insn.target != null) {
                int way = insn.target.entry().place - insn.place;
                if (insn.op >= 20) {
                    code[insn.place + 1] = way >> 8 & 255;
                    code[insn.place + 2] = way & 255;
                } else {
                    code[insn.place + 1] = way & 255;
                }
            } else {
                System.arraycopy(insn.rest, 0, code, insn.place + 1, insn.size() - 1);
            }
        }
        return code;
    }

    boolean failed(int m, int t) {
        return m >= 0 && m < 4 && t >= 0 && t < 3 && failures.contains(m * 3 + t);
    }

    // ---- runs

    int run(boolean asWoven, int m, int a, int b, int most) {
        List<Method> methods = asWoven ? woven : loaded;
        if (methods == null || m < 0 || m >= methods.size() || most < 1 || most > 1000) {
            return NONE;
        }
        value = 0;
        used = 0;
        fuel = most;
        marks = new ArrayList<>();
        probes = new HashMap<>();
        try {
            value = perform(methods, m, new int[] {a, b}, 1);
            return 0;
        } catch (Thrown thrown) {
            value = thrown.number;
            return 1;
        } catch (Ended ended) {
            return ended.how;
        }
    }

    private int perform(List<Method> methods, int m, int[] arguments, int under) throws Thrown, Ended {
        if (under > 8) {
            throw new Ended(3);
        }
        Method method = methods.get(m);
        int[] locals = new int[Math.max(method.locals, 0)];
        System.arraycopy(arguments, 0, locals, 0, method.args);
        Deque<Integer> stack = new ArrayDeque<>();
        int p = 0;
        while (true) {
            int op = method.code[p];
            if (op < 30) {
                if (used == fuel) {
                    throw new Ended(2);
                }
                used++;
            }
            try {
                if (op == 14) {
                    return stack.pop();
                }
                p = step(methods, m, p, locals, stack, under);
            } catch (Thrown thrown) {
                int[] found = null;
                for (int[] handler : method.handlers) {
                    boolean fits = handler[3] == 0 || handler[3] == thrown.number;
                    if (found == null && fits && handler[0] <= p && p < handler[1]) {
                        found = handler;
                    }
                }
                if (found == null) {
                    throw thrown;
                }
                stack.clear();
                stack.push(thrown.number);
                p = found[2];
            }
        }
    }

    private int step(List<Method> methods, int m, int p, int[] locals, Deque<Integer> stack, int under)
            throws Thrown, Ended {
        int[] code = methods.get(m).code;
        int op = code[p];
        int next = p + size(op);
        switch (op) {
            case 0 -> { }
            case 1 -> stack.push((int) (byte) code[p + 1]);
            case 2 -> stack.push(locals[code[p + 1]]);
            case 3 -> locals[code[p + 1]] = stack.pop();
            case 4, 5, 6, 7 -> {
                int b = stack.pop();
                int a = stack.pop();
                if (op == 7 && b == 0) {
                    throw new Thrown(1);
                }
                stack.push(op == 4 ? a + b : op == 5 ? a - b : op == 6 ? a * b : a / b);
            }
            case 8 -> stack.push(stack.peek());
            case 9 -> stack.pop();
            case 10, 20 -> next = p + way(code, p);
            case 11, 21 -> next = stack.pop() == 0 ? p + way(code, p) : next;
            case 12, 22 -> next = stack.pop() < 0 ? p + way(code, p) : next;
            case 13 -> {
                int[] arguments = new int[2];
                for (int i = methods.get(code[p + 1]).args - 1; i >= 0; i--) {
                    arguments[i] = stack.pop();
                }
                stack.push(perform(methods, code[p + 1], arguments, under + 1));
            }
            case 15, 32 -> throw new Thrown(stack.pop());
            case 16 -> locals[code[p + 1]] += (byte) code[p + 2];
            case 30 -> marks.add(16 * m + code[p + 1]);
            case 31 -> probes.merge(100 * m + code[p + 1], 1, Integer::sum);
            default -> throw new AssertionError("no instruction " + op);
        }
        return next;
    }

    int mark(int k) {
        return k < 0 || k > 99 || k >= marks.size() ? NONE : marks.get(k);
    }

    int probe(int m, int p) {
        return p < 0 || p > 99 || m < 0 || m > 3 ? 0 : probes.getOrDefault(100 * m + p, 0);
    }

    // ---- looking at a method

    private Method method(boolean asWoven, int m) {
        List<Method> methods = asWoven ? woven : loaded;
        return methods == null || m < 0 || m >= methods.size() ? null : methods.get(m);
    }

    int shape(boolean asWoven, int m, int what) {
        Method method = method(asWoven, m);
        if (method == null || what < 0 || what > 3) {
            return NONE;
        }
        return switch (what) {
            case 0 -> method.code.length;
            case 1 -> method.handlers.size();
            case 2 -> method.places.size();
            default -> method.depths.values().stream().mapToInt(Integer::intValue).max().orElse(0);
        };
    }

    int code(boolean asWoven, int m, int p) {
        Method method = method(asWoven, m);
        return method == null || p < 0 || p >= method.code.length ? NONE : method.code[p];
    }

    int handler(boolean asWoven, int m, int h, int what) {
        Method method = method(asWoven, m);
        if (method == null || h < 0 || h >= method.handlers.size() || what < 0 || what > 3) {
            return NONE;
        }
        return method.handlers.get(h)[what];
    }

    int depth(boolean asWoven, int m, int p) {
        Method method = method(asWoven, m);
        return method == null || !method.places.contains(p) ? NONE : method.depths.getOrDefault(p, NONE);
    }
}
