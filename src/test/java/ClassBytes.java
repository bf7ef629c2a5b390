import java.util.ArrayList;
import java.util.List;

/** Writes class files for the tests. */
final class ClassBytes {
    private final List<int[]> methods = new ArrayList<>();

    /** Negative numbers of the code are written as the bytes that they are. */
    ClassBytes method(char name, int args, int locals, int stack, int... code) {
        int[] method = new int[code.length + 6];
        method[0] = name;
        method[1] = args;
        method[2] = locals;
        method[3] = stack;
        method[4] = code.length;
        for (int p = 0; p < code.length; p++) {
            method[5 + p] = code[p] & 255;
        }
        methods.add(method);
        return this;
    }

    /** A handler of the latest method. */
    ClassBytes handler(int start, int end, int at, int kind) {
        int[] method = methods.remove(methods.size() - 1);
        int[] longer = java.util.Arrays.copyOf(method, method.length + 4);
        longer[5 + method[4]]++;
        longer[method.length] = start;
        longer[method.length + 1] = end;
        longer[method.length + 2] = at;
        longer[method.length + 3] = kind;
        methods.add(longer);
        return this;
    }

    int[] bytes() {
        List<Integer> all = new ArrayList<>(List.of(202, methods.size()));
        for (int[] method : methods) {
            for (int b : method) {
                all.add(b);
            }
        }
        return all.stream().mapToInt(Integer::intValue).toArray();
    }

    int loadInto(AdviceWeaver x) {
        return loadInto(x, bytes());
    }

    static int loadInto(AdviceWeaver x, int... bytes) {
        putInto(x, bytes);
        return x.load();
    }

    /** By words, for an object is used for 512 calls at most. */
    static void putInto(AdviceWeaver x, int... bytes) {
        x.clear();
        for (int at = 0; at < bytes.length; at += 4) {
            int n = Math.min(4, bytes.length - at);
            int word = 0;
            for (int i = 0; i < n; i++) {
                word = word << 8 | bytes[at + i];
            }
            x.put(word, n);
        }
    }

    /** What a new object answers. */
    int load() {
        return loadInto(new AdviceWeaver());
    }
}
