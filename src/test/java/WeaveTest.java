import java.util.Arrays;

/** Promises 7 (weave) and 8 (failed): what transformers make of code and handlers, byte for byte. */
public final class WeaveTest {
    private static final Check check = new Check("WeaveTest");
    private static final int TRACE = 0;
    private static final int COVER = 1;

    public static void main(String[] args) {
        trace();
        traceOfHandlers();
        traceTwice();
        cover();
        coverLeaders();
        coverOfTrace();
        traceOfCover();
        wideWhereItMust();
        wideInRounds();
        wideStaysWide();
        tooManyBytes();
        tooManyHandlers();
        failuresAreOfTheLatestWeaving();
        weavingBeginsWithLoaded();
        check.finish();
    }

    private static AdviceWeaver weave(ClassBytes file, int due, int... kinds) {
        AdviceWeaver x = new AdviceWeaver();
        check.is("the class is sound", file.loadInto(x) > 0, true);
        for (int kind : kinds) {
            x.transformer(kind == COVER, 0, -1);
        }
        check.is("weave", x.weave(), due);
        return x;
    }

    private static void trace() {
        ClassBytes file = new ClassBytes().method('a', 1, 1, 1, 2, 0, 11, 4, 10, -4, 1, 7, 14, 1, 8, 14, 15);
        AdviceWeaver x = weave(file, 1, TRACE);
        check.code("TRACE", x, true, 0,
            30, 0, 2, 0, 11, 4, 10, -4, 1, 7, 30, 1, 14, 1, 8, 30, 1, 14, 15, 30, 2, 32);
        check.is("one handler", x.shape(true, 0, 1), 1);
        check.handler("TRACE", x, true, 0, 0, 0, 19, 19, 0);
        check.code("the loaded code stays", x, false, 0, 2, 0, 11, 4, 10, -4, 1, 7, 14, 1, 8, 14, 15);
        check.is("no handler was loaded", x.shape(false, 0, 1), 0);
    }

    private static void traceOfHandlers() {
        ClassBytes file = new ClassBytes().method('a', 0, 0, 1, 1, 7, 14, 1, 8, 14, 15)
            .handler(0, 7, 5, 4).handler(2, 5, 2, 0).handler(3, 6, 6, 9);
        AdviceWeaver x = weave(file, 1, TRACE);
        check.code("code", x, true, 0, 30, 0, 1, 7, 30, 1, 14, 1, 8, 30, 1, 14, 15, 30, 2, 32);
        check.is("handlers", x.shape(true, 0, 1), 4);
        check.handler("the length leads to H, START not to MARK", x, true, 0, 0, 2, 13, 9, 4);
        check.handler("places of RETURN lead to its MARK", x, true, 0, 1, 4, 9, 4, 0);
        check.handler("END at an instruction", x, true, 0, 2, 7, 12, 12, 9);
        check.handler("its own is the last", x, true, 0, 3, 0, 13, 13, 0);
    }

    private static void traceTwice() {
        AdviceWeaver x = weave(new ClassBytes().method('a', 0, 0, 1, 1, 7, 14), 2, TRACE, TRACE);
        check.code("code", x, true, 0, 30, 3, 30, 0, 1, 7, 30, 1, 30, 4, 14, 30, 2, 32, 30, 5, 32);
        check.handler("the first one's", x, true, 0, 0, 2, 11, 11, 0);
        check.handler("the second one's", x, true, 0, 1, 0, 14, 14, 0);
    }

    private static void cover() {
        ClassBytes file = new ClassBytes().method('a', 1, 1, 1, 2, 0, 11, 5, 1, 7, 14, 1, 8, 14, 1, 9, 14)
            .handler(0, 13, 9, 0).handler(7, 10, 6, 2);
        AdviceWeaver x = weave(file, 1, COVER);
        check.code("COVER", x, true, 0,
            31, 0, 2, 0, 11, 9, 31, 1, 1, 7, 31, 2, 14, 31, 3, 1, 8, 31, 4, 14, 31, 5, 1, 9, 14);
        check.is("handlers", x.shape(true, 0, 1), 2);
        check.handler("the length leads to the end", x, true, 0, 0, 0, 25, 17, 0);
        check.handler("START, END and AT lead to the PROBE", x, true, 0, 1, 13, 20, 10, 2);
    }

    private static void leaders(String what, int[] code, int... due) {
        AdviceWeaver x = weave(new ClassBytes().method('a', 1, 1, 3, code), 1, COVER);
        check.code(what, x, true, 0, due);
    }

    private static void coverLeaders() {
        leaders("behind GOTO", new int[] {10, 2, 1, 5, 14}, 31, 0, 10, 2, 31, 1, 1, 5, 14);
        leaders("behind wide GOTO", new int[] {20, 0, 3, 1, 5, 14}, 31, 0, 20, 0, 3, 31, 1, 1, 5, 14);
        for (int op : new int[] {11, 12}) {
            leaders("behind " + op, new int[] {2, 0, op, 3, 0, 1, 5, 14},
                31, 0, 2, 0, op, 5, 31, 1, 0, 31, 2, 1, 5, 14);
            leaders("behind " + (op + 10), new int[] {2, 0, op + 10, 0, 4, 0, 1, 5, 14},
                31, 0, 2, 0, op + 10, 0, 6, 31, 1, 0, 31, 2, 1, 5, 14);
        }
        leaders("behind RETURN and THROW, reached or not", new int[] {1, 5, 14, 14, 15, 15, 0},
            31, 0, 1, 5, 14, 31, 1, 14, 31, 2, 15, 31, 3, 15, 31, 4, 0);
        leaders("not behind CALL", new int[] {2, 0, 13, 0, 14}, 31, 0, 2, 0, 13, 0, 14);
        leaders("a branch that is not reached leads too", new int[] {1, 5, 0, 14, 10, -1},
            31, 0, 1, 5, 0, 31, 1, 14, 31, 2, 10, -5);
        leaders("a branch to the first leads to its PROBE", new int[] {0, 10, -1}, 31, 0, 0, 10, -3);
    }

    private static void coverOfTrace() {
        AdviceWeaver x = weave(new ClassBytes().method('a', 0, 0, 1, 1, 7, 14), 2, TRACE, COVER);
        check.code("code", x, true, 0, 31, 0, 30, 0, 1, 7, 30, 1, 14, 31, 1, 30, 2, 32);
        check.handler("END and AT lead to the PROBE", x, true, 0, 0, 0, 9, 9, 0);
        x = weave(new ClassBytes().method('a', 0, 0, 1, 1, 7, 14), 3, TRACE, TRACE, COVER);
        check.code("behind RETHROW", x, true, 0,
            31, 0, 30, 3, 30, 0, 1, 7, 30, 1, 30, 4, 14, 31, 1, 30, 2, 32, 31, 2, 30, 5, 32);
        check.handler("the first one's", x, true, 0, 0, 4, 13, 13, 0);
        check.handler("the second one's", x, true, 0, 1, 0, 18, 18, 0);
    }

    private static void traceOfCover() {
        ClassBytes file = new ClassBytes().method('a', 0, 0, 1, 1, 7, 14, 14).handler(0, 2, 2, 0);
        AdviceWeaver x = weave(file, 2, COVER, TRACE);
        check.code("code", x, true, 0, 30, 3, 31, 0, 1, 7, 31, 1, 30, 4, 14, 31, 2, 30, 4, 14, 30, 5, 32);
        check.handler("the method's", x, true, 0, 0, 2, 6, 6, 0);
        check.handler("its own", x, true, 0, 1, 0, 16, 16, 0);
    }

    /** A branch over so many NOTHINGs, then PUSH 1, RETURN. */
    private static int[] over(int op, int nothings) {
        int[] code = new int[nothings + 7];
        code[0] = 2;
        code[2] = op;
        code[3] = nothings + 2;
        code[nothings + 4] = 1;
        code[nothings + 5] = 1;
        code[nothings + 6] = 14;
        return code;
    }

    private static void wideWhereItMust() {
        for (int op : new int[] {11, 12}) {
            AdviceWeaver x = weave(new ClassBytes().method('a', 1, 1, 1, over(op, 20)), 1, COVER);
            check.is("22 + 2 stays short", x.code(true, 0, 4), op);
            check.is("and leads by 24", x.code(true, 0, 5), 24);
            check.is("so its bytes are", x.shape(true, 0, 0), 33);
            x = weave(new ClassBytes().method('a', 1, 1, 1, over(op, 21)), 1, COVER);
            check.is("23 + 2 becomes wide", x.code(true, 0, 4), op + 10);
            check.is("and leads by 26, high", x.code(true, 0, 5), 0);
            check.is("and leads by 26, low", x.code(true, 0, 6), 26);
            check.is("so its bytes are", x.shape(true, 0, 0), 35);
            check.is("the code behind is whole", x.code(true, 0, 30), 31);
        }
        int[] back = new int[26];
        back[24] = 10;
        back[25] = -24;
        AdviceWeaver x = weave(new ClassBytes().method('a', 0, 0, 1, back), 1, TRACE);
        check.is("a way that is not longer stays short", x.code(true, 0, 26), 10);
        x = weave(new ClassBytes().method('a', 0, 0, 1, back), 1, COVER);
        check.is("GOTO back becomes wide", x.code(true, 0, 26), 20);
        check.is("its high byte", x.code(true, 0, 27), 255);
        check.is("its low byte", x.code(true, 0, 28), 256 - 26);
    }

    /** A branch at 2 by the way that is asked for, one at 6 by 24. */
    private static ClassBytes twoBranches(int way) {
        int[] code = new int[33];
        code[0] = 2;
        code[2] = 11;
        code[3] = way;
        code[4] = 2;
        code[6] = 11;
        code[7] = 24;
        code[30] = 1;
        code[32] = 14;
        return new ClassBytes().method('a', 1, 1, 1, code);
    }

    /** PROBEs stand behind both branches, and before what they lead to. */
    private static void wideInRounds() {
        AdviceWeaver x = weave(twoBranches(19), 1, COVER);
        check.is("19 + 4 + 1, for the other one is wide, stays short", x.code(true, 0, 4), 11);
        check.is("its way", x.code(true, 0, 5), 24);
        check.is("the other one", x.code(true, 0, 10), 21);
        check.is("its way", x.code(true, 0, 12), 24 + 4 + 1);
        x = weave(twoBranches(20), 1, COVER);
        check.is("20 + 4 would do, but for the other one", x.code(true, 0, 4), 21);
        check.is("its way", x.code(true, 0, 6), 20 + 4 + 1 + 1);
        check.is("the other one", x.code(true, 0, 11), 21);
        check.is("its way", x.code(true, 0, 13), 24 + 4 + 1);
    }

    private static void wideStaysWide() {
        AdviceWeaver x = weave(new ClassBytes().method('a', 0, 0, 1, 20, 0, 3, 1, 5, 14), 2, TRACE, COVER);
        check.code("code", x, true, 0,
            31, 0, 30, 0, 20, 0, 3, 31, 1, 1, 5, 30, 1, 14, 31, 2, 30, 2, 32);
    }

    /** PUSH 5, NOTHINGs, RETURNs: a TRACE adds five bytes and two for each RETURN. */
    private static int[] filledCode(int nothings, int returns) {
        int[] code = new int[2 + nothings + returns];
        Arrays.fill(code, 2 + nothings, code.length, 14);
        code[0] = 1;
        code[1] = 5;
        return code;
    }

    private static ClassBytes filled(int nothings, int returns) {
        return new ClassBytes().method('a', 0, 0, 1, filledCode(nothings, returns));
    }

    private static ClassBytes returns(int count) {
        return filled(0, count);
    }

    private static void tooManyBytes() {
        AdviceWeaver x = weave(returns(37), 1, TRACE);
        check.is("2 + 2 + 111 + 3 bytes", x.shape(true, 0, 0), 118);
        check.is("it did not fail", x.failed(0, 0), false);
        x = weave(returns(38), 0, TRACE);
        check.is("121 bytes are too many", x.failed(0, 0), true);
        check.is("the method goes on as it was", x.shape(true, 0, 0), 40);
        check.is("without the handler", x.shape(true, 0, 1), 0);
        x = weave(filled(8, 20), 2, TRACE, TRACE);
        check.is("30 + 45 + 45 bytes are not", x.shape(true, 0, 0), 120);
        check.is("so it did not fail", x.failed(0, 1), false);
        x = weave(filled(9, 20), 1, TRACE, TRACE);
        check.is("one more is one too many", x.shape(true, 0, 0), 76);
        check.is("so it failed", x.failed(0, 1), true);
        x = weave(returns(37), 1, TRACE, COVER, TRACE);
        check.is("the first one holds", x.failed(0, 0), false);
        check.is("the second one fails", x.failed(0, 1), true);
        check.is("the third one too", x.failed(0, 2), true);
        check.is("what the first one made stays", x.shape(true, 0, 0), 118);
        check.handler("its handler too", x, true, 0, 0, 0, 115, 115, 0);
    }

    private static void tooManyHandlers() {
        ClassBytes file = new ClassBytes().method('a', 0, 0, 1, 1, 5, 14, 14)
            .handler(0, 2, 3, 1).handler(0, 2, 3, 2).handler(0, 2, 3, 3);
        AdviceWeaver x = weave(file, 2, TRACE, TRACE, TRACE);
        check.is("five handlers", x.shape(true, 0, 1), 5);
        check.is("the first", x.failed(0, 0), false);
        check.is("the second", x.failed(0, 1), false);
        check.is("the third would be the sixth", x.failed(0, 2), true);
        check.is("so its MARK is not there", x.code(true, 0, 1), 3);
        x = weave(file, 3, TRACE, TRACE, COVER);
        check.is("a COVER puts none there", x.failed(0, 2), false);
    }

    private static void failuresAreOfTheLatestWeaving() {
        AdviceWeaver x = weave(returns(38).method('b', 0, 0, 1, 1, 5, 14), 1, TRACE);
        check.is("failed", x.failed(0, 0), true);
        check.is("the other method did not", x.failed(1, 0), false);
        int[] wrong = {-1, 2, 3, 4, 5, 12, 100, Integer.MAX_VALUE, Integer.MIN_VALUE};
        for (int m : wrong) {
            check.is("no method " + m, x.failed(m, 0), false);
        }
        for (int t : wrong) {
            check.is("no transformer " + t, x.failed(0, t), false);
        }
        check.is("rows do not run into one another", x.failed(-1, 3), false);
        ClassBytes file = new ClassBytes().method('b', 0, 0, 1, 1, 5, 14).method('a', 0, 0, 1, filledCode(0, 38));
        AdviceWeaver second = weave(file, 1, TRACE);
        check.is("the second method failed", second.failed(1, 0), true);
        check.is("that is no transformer 3 of the first", second.failed(0, 3), false);
        x.unchain();
        x.transformer(true, 'b', -1);
        check.is("still, before the next weaving", x.failed(0, 0), true);
        check.is("the next weaving", x.weave(), 1);
        check.is("not any more", x.failed(0, 0), false);
        x.unchain();
        x.transformer(true, 'z', -1);
        x.transformer(false, 'a', -1);
        check.is("none that fits and does not fail", x.weave(), 0);
        check.is("one that does not fit does not fail", x.failed(0, 0), false);
        check.is("the second failed", x.failed(0, 1), true);
        check.is("a new class", returns(3).loadInto(x), 1);
        check.is("was not woven", x.failed(0, 1), false);
        check.is("a wrong load changes nothing", x.weave() + ClassBytes.loadInto(x, 0), 0);
    }

    private static void weavingBeginsWithLoaded() {
        AdviceWeaver x = weave(new ClassBytes().method('a', 0, 0, 1, 1, 7, 14), 1, TRACE);
        check.is("again", x.weave(), 1);
        check.code("the same code", x, true, 0, 30, 0, 1, 7, 30, 1, 14, 30, 2, 32);
        check.is("the same handlers", x.shape(true, 0, 1), 1);
        x.transformer(true, 0, -1);
        check.is("the chain does not weave by itself", x.shape(true, 0, 0), 10);
        check.is("with one more", x.weave(), 2);
        check.is("both", x.shape(true, 0, 0), 14);
    }
}
