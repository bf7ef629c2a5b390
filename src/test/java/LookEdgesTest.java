/** Promises 15 to 18: no such method, nothing woven, another what, no such place, and what can't be reached. */
public final class LookEdgesTest {
    private static final Check check = new Check("LookEdgesTest");
    private static final int NONE = AdviceWeaver.NONE;
    private static final int MIN = Integer.MIN_VALUE;
    private static final int MAX = Integer.MAX_VALUE;
    private static final int[] OUTSIDE = {MIN, -2, -1, 4, 5, 8, 16, 256, MAX};

    public static void main(String[] args) {
        noSuchMethod();
        eachNumberOfMethods();
        nothingWoven();
        wovenByNone();
        anotherWhat();
        bytesFromFirstToLast();
        greatestCode();
        handlersFromFirstToLast();
        placesWithoutInstruction();
        notReached();
        reachedBackwards();
        greatestDepthOfStatesAlone();
        refusedLoadShowsTheClassBefore();
        check.finish();
    }

    private static AdviceWeaver loaded(ClassBytes file) {
        AdviceWeaver x = new AdviceWeaver();
        check.is("the class is sound", file.loadInto(x) > 0, true);
        return x;
    }

    private static AdviceWeaver woven(ClassBytes file, boolean... covers) {
        AdviceWeaver x = loaded(file);
        for (boolean cover : covers) {
            x.transformer(cover, 0, -1);
        }
        x.weave();
        return x;
    }

    private static void none(String what, AdviceWeaver x, boolean asWoven, int m) {
        for (int part = 0; part < 4; part++) {
            check.is(what + ", shape " + part, x.shape(asWoven, m, part), NONE);
            check.is(what + ", handler part " + part, x.handler(asWoven, m, 0, part), NONE);
        }
        check.is(what + ", code", x.code(asWoven, m, 0), NONE);
        check.is(what + ", depth", x.depth(asWoven, m, 0), NONE);
    }

    private static ClassBytes methods(int count) {
        ClassBytes file = new ClassBytes();
        for (int m = 0; m < count; m++) {
            file.method((char) ('a' + m), 0, 0, 1, 1, m, 14).handler(0, 2, 2, m);
        }
        return file;
    }

    private static void noSuchMethod() {
        for (int m : OUTSIDE) {
            AdviceWeaver x = woven(methods(4), false);
            none("method " + m, x, false, m);
            none("woven method " + m, x, true, m);
        }
    }

    private static void eachNumberOfMethods() {
        for (int count = 1; count <= 4; count++) {
            AdviceWeaver x = woven(methods(count), true);
            for (int m = 0; m <= 4; m++) {
                if (m >= count) {
                    none("method " + m + " of " + count, x, false, m);
                    none("woven method " + m + " of " + count, x, true, m);
                } else {
                    check.is("code", x.code(false, m, 1), m);
                    check.is("woven code", x.code(true, m, 3), m);
                    check.is("handler", x.handler(false, m, 0, 3), m);
                    check.is("woven handler", x.handler(true, m, 0, 3), m);
                    check.is("shape", x.shape(false, m, 0), 3);
                    check.is("woven shape", x.shape(true, m, 0), 7);
                    check.is("depth", x.depth(false, m, 2), 1);
                    check.is("woven depth", x.depth(true, m, 4), 1);
                }
            }
        }
    }

    private static void nothingWoven() {
        AdviceWeaver x = loaded(methods(2));
        x.transformer(false, 0, -1);
        none("before weaving", x, true, 0);
        check.is("as loaded", x.shape(false, 0, 0), 3);
        x.weave();
        check.is("woven", x.shape(true, 0, 0), 10);
        check.is("load again", x.load(), 2);
        none("after another load", x, true, 0);
        none("after another load", x, true, 1);
        check.is("as loaded", x.shape(false, 1, 0), 3);
    }

    /** Weaving by an empty chain, or by one that fits none, is a weaving. */
    private static void wovenByNone() {
        AdviceWeaver x = loaded(methods(1));
        check.is("weave by none", x.weave(), 0);
        check.code("as it was", x, true, 0, 1, 0, 14);
        check.handler("as it was", x, true, 0, 0, 0, 2, 2, 0);
        check.is("its instructions", x.shape(true, 0, 2), 2);
        check.is("its greatest depth", x.shape(true, 0, 3), 1);
        check.is("its depth", x.depth(true, 0, 2), 1);
        x = loaded(methods(1));
        x.transformer(false, 'z', -1);
        check.is("weave by one that does not fit", x.weave(), 0);
        check.code("as it was", x, true, 0, 1, 0, 14);
    }

    private static void anotherWhat() {
        AdviceWeaver x = woven(methods(1), false);
        int[] shape = {3, 1, 2, 1};
        int[] wovenShape = {10, 2, 6, 1};
        int[] parts = {0, 2, 2, 0};
        int[] wovenParts = {2, 4, 4, 0};
        for (int what = 0; what < 4; what++) {
            check.is("shape " + what, x.shape(false, 0, what), shape[what]);
            check.is("woven shape " + what, x.shape(true, 0, what), wovenShape[what]);
            check.is("handler part " + what, x.handler(false, 0, 0, what), parts[what]);
            check.is("woven handler part " + what, x.handler(true, 0, 0, what), wovenParts[what]);
        }
        for (int what : OUTSIDE) {
            check.is("shape " + what, x.shape(false, 0, what), NONE);
            check.is("woven shape " + what, x.shape(true, 0, what), NONE);
            check.is("handler part " + what, x.handler(false, 0, 0, what), NONE);
            check.is("woven handler part " + what, x.handler(true, 0, 0, what), NONE);
            check.is("second woven handler part " + what, x.handler(true, 0, 1, what), NONE);
        }
    }

    private static void bytesFromFirstToLast() {
        AdviceWeaver x = woven(new ClassBytes().method('a', 0, 0, 1, 1, 255, 14).method('b', 0, 0, 1, 1, 128, 0, 14), true);
        check.code("bytes are 0 .. 255", x, false, 0, 1, 255, 14);
        check.code("the other method", x, false, 1, 1, 128, 0, 14);
        check.code("woven", x, true, 0, 31, 0, 1, 255, 14);
        check.code("the other woven method", x, true, 1, 31, 0, 1, 128, 0, 14);
        for (int p : new int[] {MIN, -256, -1, 3, 4, 5, 39, 40, 41, 119, 120, 121, MAX}) {
            check.is("byte " + p, x.code(false, 0, p), NONE);
        }
        for (int p : new int[] {MIN, -256, -1, 5, 6, 39, 40, 41, 119, 120, 121, MAX}) {
            check.is("woven byte " + p, x.code(true, 0, p), NONE);
        }
    }

    private static void greatestCode() {
        int[] code = new int[40];
        code[38] = 10;
        AdviceWeaver x = loaded(new ClassBytes().method('a', 0, 0, 1, code));
        check.is("bytes", x.shape(false, 0, 0), 40);
        check.is("instructions", x.shape(false, 0, 2), 39);
        check.is("the last byte", x.code(false, 0, 39), 0);
        check.is("the last instruction", x.code(false, 0, 38), 10);
        check.is("none behind it", x.code(false, 0, 40), NONE);
        check.is("depth of the last instruction", x.depth(false, 0, 38), 0);
        check.is("depth inside it", x.depth(false, 0, 39), NONE);
        check.is("depth behind it", x.depth(false, 0, 40), NONE);
    }

    private static void handlersFromFirstToLast() {
        for (int count = 0; count <= 3; count++) {
            ClassBytes file = new ClassBytes().method('a', 0, 0, 1, 1, 5, 14);
            for (int h = 0; h < count; h++) {
                file.handler(0, 2 + h % 2, 2, 9 - h);
            }
            AdviceWeaver x = woven(file, false);
            check.is("handlers", x.shape(false, 0, 1), count);
            check.is("woven handlers", x.shape(true, 0, 1), count + 1);
            for (int h = 0; h < count; h++) {
                check.handler("loaded", x, false, 0, h, 0, 2 + h % 2, 2, 9 - h);
                check.handler("woven", x, true, 0, h, 2, h % 2 == 0 ? 4 : 7, 4, 9 - h);
            }
            check.handler("the TRACE's", x, true, 0, count, 0, 7, 7, 0);
            for (int h : new int[] {MIN, -1, count, count + 1, 5, 6, MAX}) {
                for (int what = 0; what < 4; what++) {
                    check.is("handler " + h + " of " + count, x.handler(false, 0, h, what), NONE);
                    if (h != count) {
                        check.is("woven handler " + h + " of " + (count + 1), x.handler(true, 0, h, what), NONE);
                    }
                }
            }
        }
    }

    private static void depths(String what, AdviceWeaver x, boolean asWoven, int... due) {
        for (int p = 0; p < due.length; p++) {
            check.is(what + ", depth at " + p, x.depth(asWoven, 0, p), due[p]);
        }
        for (int p : new int[] {MIN, -2, -1, due.length, due.length + 1, 120, 121, MAX}) {
            check.is(what + ", depth at " + p, x.depth(asWoven, 0, p), NONE);
        }
    }

    private static void placesWithoutInstruction() {
        AdviceWeaver x = woven(new ClassBytes().method('a', 1, 1, 2, 2, 0, 16, 0, 0, 20, 0, 3, 8, 4, 14), true);
        depths("loaded", x, false, 0, NONE, 1, NONE, NONE, 1, NONE, NONE, 1, 2, 1);
        depths("woven", x, true, 0, NONE, 0, NONE, 1, NONE, NONE, 1, NONE, NONE, 1, NONE, 1, 2, 1);
    }

    private static void notReached() {
        AdviceWeaver x = woven(new ClassBytes().method('a', 0, 0, 2, 1, 5, 14, 0, 1, 5, 14, 15).handler(3, 7, 7, 0),
            false);
        depths("loaded", x, false, 0, NONE, 1, NONE, NONE, NONE, NONE, NONE);
        check.is("they count as instructions", x.shape(false, 0, 2), 6);
        depths("woven", x, true, 0, NONE, 0, NONE, 1, NONE, 1, NONE, NONE, NONE, NONE, NONE, NONE, NONE,
            1, NONE, 1);
        x = loaded(new ClassBytes().method('a', 0, 0, 2, 1, 5, 14, 0, 1, 5, 14, 15).handler(2, 7, 7, 0));
        depths("reached by a handler", x, false, 0, NONE, 1, NONE, NONE, NONE, NONE, 1);
    }

    /** A wide GOTO to the last of GOTOs that each lead to the one before it. */
    private static void reachedBackwards() {
        int[] code = new int[39];
        code[0] = 20;
        code[2] = 37;
        int[] due = new int[39];
        java.util.Arrays.fill(due, NONE);
        due[0] = 0;
        for (int at = 3; at < 39; at += 2) {
            code[at] = 10;
            code[at + 1] = at == 3 ? 0 : -2;
            due[at] = 0;
        }
        AdviceWeaver x = woven(new ClassBytes().method('a', 0, 0, 1, code), false);
        depths("loaded", x, false, due);
        int[] wovenDue = new int[44];
        java.util.Arrays.fill(wovenDue, NONE);
        System.arraycopy(due, 0, wovenDue, 2, 39);
        wovenDue[0] = 0;
        wovenDue[41] = 1;
        wovenDue[43] = 1;
        depths("woven", x, true, wovenDue);
    }

    private static void greatestDepthOfStatesAlone() {
        for (int depth = 1; depth <= 8; depth++) {
            int[] code = new int[2 * depth + 1];
            for (int i = 0; i < depth; i++) {
                code[2 * i] = 1;
            }
            code[2 * depth] = 14;
            AdviceWeaver x = woven(new ClassBytes().method('a', 0, 0, 8, code), false, true);
            check.is("greatest depth " + depth, x.shape(false, 0, 3), depth);
            check.is("woven, greatest depth " + depth, x.shape(true, 0, 3), depth);
        }
        AdviceWeaver x = woven(new ClassBytes().method('a', 0, 0, 8, 10, 0, 1, 5, 1, 5, 14), true);
        check.is("no depth, for the rest is not reached", x.shape(false, 0, 3), 0);
        check.is("nor when it is woven by a COVER", x.shape(true, 0, 3), 0);
        x = woven(new ClassBytes().method('a', 0, 0, 8, 10, 0), false);
        check.is("what is thrown to a TRACE's H counts", x.shape(true, 0, 3), 1);
        x = loaded(new ClassBytes().method('a', 0, 0, 8, 10, 0, 10, 0).handler(0, 2, 2, 0));
        check.is("what is thrown to a handler counts", x.shape(false, 0, 3), 1);
    }

    private static void refusedLoadShowsTheClassBefore() {
        AdviceWeaver x = woven(methods(2), true);
        check.is("an error of the file", ClassBytes.loadInto(x, 202, 3), -3);
        check.code("as loaded", x, false, 1, 1, 1, 14);
        check.is("an error of a method", new ClassBytes().method('a', 0, 0, 8, 10, 0).method('b', 0, 0, 1, 14).loadInto(x),
            -1001);
        check.code("as loaded", x, false, 0, 1, 0, 14);
        check.code("as woven", x, true, 1, 31, 0, 1, 1, 31, 1, 14);
        check.is("depth as loaded", x.depth(false, 0, 2), 1);
        check.is("depth as woven", x.depth(true, 0, 6), 1);
        check.is("handlers as woven", x.shape(true, 0, 1), 1);
    }
}
