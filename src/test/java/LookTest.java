/** Promises 15 (shape), 16 (code), 17 (handler) and 18 (depth). */
public final class LookTest {
    private static final Check check = new Check("LookTest");
    private static final int[] WRONG = {-1, 4, 5, 8, 100, 256, Integer.MIN_VALUE, Integer.MAX_VALUE};

    public static void main(String[] args) {
        AdviceWeaver x = new AdviceWeaver();
        check.is("load", file().loadInto(x), 2);
        asLoaded(x);
        wovenBeforeWeaving(x);
        x.transformer(true, 'f', -1);
        x.transformer(false, 'f', -1);
        check.is("weave", x.weave(), 2);
        asLoaded(x);
        asWoven(x);
        wrongNumbers(x);
        greatestDepths();
        check.finish();
    }

    /** f has an instruction that is not reached at 10. */
    private static ClassBytes file() {
        return new ClassBytes().method('f', 1, 2, 3, 2, 0, 1, -3, 8, 4, 7, 10, 3, 15, 14, 14).handler(2, 12, 11, 1)
            .method('g', 0, 0, 8, 1, 1, 14);
    }

    private static void shapes(String what, AdviceWeaver x, boolean woven, int m, int... due) {
        for (int part = 0; part < 4; part++) {
            check.is(what + ", shape " + part, x.shape(woven, m, part), due[part]);
        }
        check.is(what + ", shape -1", x.shape(woven, m, -1), -1);
        check.is(what + ", shape 4", x.shape(woven, m, 4), -1);
    }

    private static void depths(String what, AdviceWeaver x, boolean woven, int m, int... due) {
        for (int p = 0; p < due.length; p++) {
            check.is(what + ", depth at " + p, x.depth(woven, m, p), due[p]);
        }
        check.is(what + ", depth behind", x.depth(woven, m, due.length), -1);
        check.is(what + ", depth before", x.depth(woven, m, -1), -1);
    }

    private static void asLoaded(AdviceWeaver x) {
        shapes("f", x, false, 0, 12, 1, 9, 3);
        check.code("f", x, false, 0, 2, 0, 1, 253, 8, 4, 7, 10, 3, 15, 14, 14);
        check.handler("f", x, false, 0, 0, 2, 12, 11, 1);
        depths("f", x, false, 0, 0, -1, 1, -1, 2, 3, 2, 1, -1, -1, 1, 1);
        shapes("g", x, false, 1, 3, 0, 2, 1);
        depths("g", x, false, 1, 0, -1, 1);
    }

    private static void wovenBeforeWeaving(AdviceWeaver x) {
        for (int m = 0; m < 2; m++) {
            for (int what = 0; what < 4; what++) {
                check.is("shape before weaving", x.shape(true, m, what), -1);
                check.is("handler before weaving", x.handler(true, m, 0, what), -1);
            }
            check.is("code before weaving", x.code(true, m, 0), -1);
            check.is("depth before weaving", x.depth(true, m, 0), -1);
        }
    }

    private static void asWoven(AdviceWeaver x) {
        check.code("woven f", x, true, 0, 30, 3, 31, 0, 2, 0, 1, 253, 8, 4, 7, 10, 5, 31, 1, 15, 31, 2, 30, 4, 14,
            31, 3, 30, 4, 14, 30, 5, 32);
        shapes("woven f", x, true, 0, 29, 2, 18, 3);
        check.handler("woven f, its own", x, true, 0, 0, 6, 26, 21, 1);
        check.handler("woven f, the TRACE's", x, true, 0, 1, 0, 26, 26, 0);
        depths("woven f", x, true, 0, 0, -1, 0, -1, 0, -1, 1, -1, 2, 3, 2, 1, -1, -1, -1, -1, 1, -1, 1, -1, 1, 1, -1,
            1, -1, 1, 1, -1, 1);
        shapes("woven g, that no transformer fits", x, true, 1, 3, 0, 2, 1);
        check.code("woven g", x, true, 1, 1, 1, 14);
    }

    private static void wrongNumbers(AdviceWeaver x) {
        for (int number : WRONG) {
            for (int woven = 0; woven < 2; woven++) {
                boolean asWoven = woven == 1;
                check.is("shape of method " + number, x.shape(asWoven, number, 0), -1);
                check.is("code of method " + number, x.code(asWoven, number, 0), -1);
                check.is("handler of method " + number, x.handler(asWoven, number, 0, 0), -1);
                check.is("depth of method " + number, x.depth(asWoven, number, 0), -1);
                check.is("shape " + number, x.shape(asWoven, 0, number), -1);
                check.is("handler " + number, x.handler(asWoven, 0, number, 0), -1);
                check.is("part " + number, x.handler(asWoven, 0, 0, number), -1);
            }
        }
        check.is("method 2 of 2", x.shape(false, 2, 0), -1);
        for (int p : new int[] {-1, 12, 40, 120, Integer.MIN_VALUE, Integer.MAX_VALUE}) {
            check.is("byte " + p, x.code(false, 0, p), -1);
            check.is("depth " + p, x.depth(false, 0, p), -1);
        }
        check.is("handler 1 of 1", x.handler(false, 0, 1, 0), -1);
        check.is("handler 2 of 2", x.handler(true, 0, 2, 0), -1);
        check.is("no handlers", x.handler(false, 1, 0, 0), -1);
    }

    private static void greatestDepths() {
        AdviceWeaver x = new AdviceWeaver();
        new ClassBytes().method('l', 0, 0, 5, 10, 0).method('d', 0, 0, 8, 1, 1, 8, 8, 8, 8, 8, 8, 8, 14)
            .method('u', 0, 0, 8, 1, 1, 14, 1, 1, 1, 1, 1, 1, 14).loadInto(x);
        check.is("a loop without numbers", x.shape(false, 0, 3), 0);
        check.is("a full stack", x.shape(false, 1, 3), 8);
        check.is("what is not reached does not count", x.shape(false, 2, 3), 1);
        x.transformer(false, 0, -1);
        x.weave();
        check.is("what is thrown counts, in the TRACE of a loop", x.shape(true, 0, 3), 1);
        check.is("a full stack, woven", x.shape(true, 1, 3), 8);
        ClassBytes other = new ClassBytes().method('a', 0, 0, 1, 10, 0).method('b', 0, 0, 8, 1, 1, 14);
        check.is("another class", other.loadInto(x), 2);
        check.is("the class before does not count", x.shape(false, 1, 3), 1);
        x.unchain();
        x.weave();
        check.is("nor what was woven before", x.shape(true, 0, 3), 0);
    }
}
