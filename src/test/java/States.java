import java.util.List;
import java.util.function.Consumer;

/** Objects in several states, for the tests that ask what a call changes. */
final class States {
    static final ClassBytes SMALL = new ClassBytes().method('s', 1, 1, 2, 2, 0, 1, 3, 4, 14);
    /** f calls g so often as its argument tells; h has so many RETURNs that a TRACE fails; i divides, and catches 1. */
    static final ClassBytes LARGE = new ClassBytes()
        .method('f', 1, 1, 1, 2, 0, 11, 10, 13, 1, 9, 16, 0, -1, 10, -10, 1, 5, 14)
        .method('g', 0, 0, 1, 1, 6, 14)
        .method('h', 0, 0, 1, manyReturns())
        .method('i', 2, 2, 2, 2, 0, 2, 1, 7, 14, 14).handler(4, 5, 6, 1);

    static final Consumer<AdviceWeaver> NEW = x -> { };
    static final Consumer<AdviceWeaver> SOME_BYTES = x -> x.put(0xCA0161, 3);
    static final Consumer<AdviceWeaver> FULL = x -> {
        for (int i = 0; i < 60; i++) {
            x.put(0xCA01CA01, 4);
        }
        for (int t = 0; t < 3; t++) {
            x.transformer(t == 1, 0, -1);
        }
    };
    static final Consumer<AdviceWeaver> LOADED = x -> {
        LARGE.loadInto(x);
        x.transformer(false, 0, -1);
        x.run(false, 3, 4, 0, 50);
    };
    static final Consumer<AdviceWeaver> WOVEN = x -> {
        LARGE.loadInto(x);
        x.transformer(false, 0, -1);
        x.transformer(true, 0, -1);
        x.weave();
        x.run(true, 0, 20, 0, 900);
    };
    /** The bytes and the chain are no longer those of what was loaded and woven. */
    static final Consumer<AdviceWeaver> WOVEN_THEN_OTHERS = WOVEN.andThen(x -> {
        ClassBytes.putInto(x, SMALL.bytes());
        x.unchain();
        x.transformer(true, 'h', -1);
    });

    static final List<Consumer<AdviceWeaver>> ALL =
        List.of(NEW, SOME_BYTES, FULL, LOADED, WOVEN, WOVEN_THEN_OTHERS);
    static final List<Consumer<AdviceWeaver>> WITHOUT_CLASS = List.of(NEW, SOME_BYTES, FULL);
    static final List<Consumer<AdviceWeaver>> WITH_CLASS = List.of(LOADED, WOVEN, WOVEN_THEN_OTHERS);

    private States() {
    }

    private static int[] manyReturns() {
        int[] code = new int[40];
        java.util.Arrays.fill(code, 14);
        code[0] = 1;
        return code;
    }
}
