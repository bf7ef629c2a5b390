import java.util.Arrays;

/** TRANSFORMERS: the 120 bytes, the 5 handlers, the ways that become WIDE, and what led where something is put. */
public final class TransformerEdgesTest {
    private static final Check check = new Check("TransformerEdgesTest");
    private static final int TRACE = 0;
    private static final int COVER = 1;
    private static final int RETURN = 14;

    public static void main(String[] args) {
        bytesOfTraces();
        bytesAreFullAlready();
        bytesOfCovers();
        bytesOfWideBranches();
        handlersOfTraces();
        failingOneGoesOnAsItWas();
        methodsFailForThemselves();
        waysForwards();
        waysBackwards();
        waysToWhatIsPutIn();
        wideInThreeRounds();
        formsAreKept();
        whatLedToTheFirst();
        endThatWasTheLength();
        leadersOnce();
        marksOfTheirNumber();
        check.finish();
    }

    private static AdviceWeaver weave(String what, ClassBytes file, int due, int... kinds) {
        AdviceWeaver x = new AdviceWeaver();
        check.is(what + ", the class is sound", file.loadInto(x) > 0, true);
        for (int kind : kinds) {
            x.transformer(kind == COVER, 0, -1);
        }
        check.is(what + ", weave", x.weave(), due);
        return x;
    }

    private static int[] join(int[]... parts) {
        int[] all = {};
        for (int[] part : parts) {
            int[] longer = Arrays.copyOf(all, all.length + part.length);
            System.arraycopy(part, 0, longer, all.length, part.length);
            all = longer;
        }
        return all;
    }

    private static int[] of(int... bytes) {
        return bytes;
    }

    private static int[] times(int count, int op) {
        int[] code = new int[count];
        Arrays.fill(code, op);
        return code;
    }

    /** PUSH 5, NOTHINGs, RETURNs: a TRACE adds 5 and 2 for each RETURN, a COVER 2 for each RETURN. */
    private static ClassBytes filled(int nothings, int returns) {
        return new ClassBytes().method('a', 0, 0, 1, join(of(1, 5), times(nothings, 0), times(returns, RETURN)));
    }

    private static void bytesOfTraces() {
        AdviceWeaver x = weave("40 + 5 + 2 * 37", filled(1, 37), 1, TRACE);
        check.is("119 bytes", x.shape(true, 0, 0), 119);
        x = weave("40 + 5 + 2 * 38", filled(0, 38), 0, TRACE);
        check.is("121 bytes fail", x.failed(0, 0), true);
        check.is("and stay 40", x.shape(true, 0, 0), 40);
        x = weave("30 + 45 + 45", filled(8, 20), 2, TRACE, TRACE);
        check.is("120 bytes", x.shape(true, 0, 0), 120);
        check.is("the last byte", x.code(true, 0, 119), 32);
        check.is("none behind it", x.code(true, 0, 120), -1);
        check.is("do not fail", x.failed(0, 1), false);
        check.is("and run", x.run(true, 0, 0, 0, 50), 0);
        x = weave("31 + 45 + 45", filled(9, 20), 1, TRACE, TRACE);
        check.is("121 bytes fail", x.failed(0, 1), true);
        check.is("and stay 76", x.shape(true, 0, 0), 76);
    }

    private static void bytesAreFullAlready() {
        for (int third = TRACE; third <= COVER; third++) {
            AdviceWeaver x = weave("a third on 120 bytes", filled(8, 20), 2, TRACE, TRACE, third);
            check.is("fails", x.failed(0, 2), true);
            check.is("and they stay", x.shape(true, 0, 0), 120);
            check.handler("with their last handler", x, true, 0, 1, 0, 117, 117, 0);
            x = weave("a third on 119 bytes", filled(7, 20), 2, TRACE, TRACE, third);
            check.is("fails", x.failed(0, 2), true);
            check.is("and they stay", x.shape(true, 0, 0), 119);
            x = weave("a third on 120 bytes of COVERs", filled(13, 21), 2, COVER, COVER, third);
            check.is("fails", x.failed(0, 2), true);
            check.is("and they stay", x.shape(true, 0, 0), 120);
        }
    }

    private static void bytesOfCovers() {
        AdviceWeaver x = weave("36 + 42 + 42", filled(13, 21), 2, COVER, COVER);
        check.is("120 bytes", x.shape(true, 0, 0), 120);
        check.is("the last byte", x.code(true, 0, 119), RETURN);
        check.is("do not fail", x.failed(0, 1), false);
        x = weave("37 + 42 + 42", filled(14, 21), 1, COVER, COVER);
        check.is("121 bytes fail", x.failed(0, 1), true);
        check.is("and stay 79", x.shape(true, 0, 0), 79);
    }

    /** LOAD 0, IF ZERO over PUSH 5, NOTHINGs and two RETURNs to PUSH 6 and sixteen RETURNs. */
    private static ClassBytes widening(int nothings) {
        int[] code = join(of(2, 0, 11, 4 + nothings + 2, 1, 5), times(nothings, 0), times(2, RETURN), of(1, 6),
            times(16, RETURN));
        return new ClassBytes().method('a', 1, 1, 1, code);
    }

    private static void bytesOfWideBranches() {
        AdviceWeaver x = weave("37 + 41 + 41 + 1", widening(11), 2, TRACE, TRACE);
        check.is("120 bytes with a wide IF", x.shape(true, 0, 0), 120);
        check.is("the IF", x.code(true, 0, 6), 21);
        check.is("its way, high", x.code(true, 0, 7), 0);
        check.is("its way, low", x.code(true, 0, 8), 17 + 4 + 4 + 1);
        x = weave("38 + 41 + 41 + 1", widening(12), 1, TRACE, TRACE);
        check.is("121 bytes with a wide IF, 120 without", x.failed(0, 1), true);
        check.is("they stay 79", x.shape(true, 0, 0), 79);
        check.is("the IF stays short", x.code(true, 0, 4), 11);
        check.is("with its way", x.code(true, 0, 5), 18 + 4);
    }

    private static ClassBytes withHandlers(int count) {
        ClassBytes file = new ClassBytes().method('a', 0, 0, 1, 1, 5, 14, 14);
        for (int h = 0; h < count; h++) {
            file.handler(0, 2, 3, h);
        }
        return file;
    }

    private static void handlersOfTraces() {
        for (int count = 0; count <= 3; count++) {
            int due = Math.min(3, 5 - count);
            AdviceWeaver x = weave(count + " handlers, three TRACEs", withHandlers(count), due, TRACE, TRACE, TRACE);
            check.is("handlers", x.shape(true, 0, 1), count + due);
            check.is("the first did not fail", x.failed(0, 0), false);
            check.is("the second did not fail", x.failed(0, 1), false);
            check.is("the third", x.failed(0, 2), due < 3);
            check.is("the last handler's KIND", x.handler(true, 0, count + due - 1, 3), 0);
            check.is("none behind it", x.handler(true, 0, count + due, 3), -1);
        }
        AdviceWeaver x = weave("five handlers, then a COVER", withHandlers(3), 3, TRACE, TRACE, COVER);
        check.is("a COVER puts no handler", x.failed(0, 2), false);
        check.is("so five stay", x.shape(true, 0, 1), 5);
        x = weave("three handlers, three COVERs", withHandlers(3), 3, COVER, COVER, COVER);
        check.is("three stay", x.shape(true, 0, 1), 3);
    }

    /** 121 bytes by the first TRACE; 116 by the COVER of what was loaded; the second TRACE fails on these. */
    private static void failingOneGoesOnAsItWas() {
        AdviceWeaver x = weave("fails, holds, fails", filled(0, 38), 1, TRACE, COVER, TRACE);
        check.is("the first fails", x.failed(0, 0), true);
        check.is("the second holds", x.failed(0, 1), false);
        check.is("the third fails", x.failed(0, 2), true);
        check.is("bytes", x.shape(true, 0, 0), 116);
        check.is("handlers", x.shape(true, 0, 1), 0);
        check.is("PROBE 0", x.code(true, 0, 0), 31);
        check.is("PUSH behind it", x.code(true, 0, 2), 1);
        check.is("the last PROBE", x.code(true, 0, 114), 37);
        x = weave("five handlers, a third TRACE", withHandlers(3), 2, TRACE, TRACE, TRACE);
        check.code("as it was", x, true, 0,
            30, 3, 30, 0, 1, 5, 30, 1, 30, 4, 14, 30, 1, 30, 4, 14, 30, 2, 32, 30, 5, 32);
    }

    private static void methodsFailForThemselves() {
        ClassBytes file = filled(0, 38).method('b', 0, 0, 1, 1, 5, 14).method('c', 0, 0, 1, 1, 5, 14, 14)
            .handler(0, 2, 3, 0).handler(0, 2, 3, 0).handler(0, 2, 3, 0).method('d', 0, 0, 1, 1, 5, 14);
        AdviceWeaver x = weave("3 + 2 + 3", file, 8, TRACE, TRACE, TRACE);
        boolean[][] due = {{true, true, true}, {false, false, false}, {false, false, true}, {false, false, false}};
        for (int m = 0; m < 4; m++) {
            for (int t = 0; t < 3; t++) {
                check.is("failed " + m + " " + t, x.failed(m, t), due[m][t]);
            }
        }
        check.is("the greatest answer", weave("four methods", new ClassBytes().method('a', 0, 0, 1, 1, 5, 14)
            .method('b', 0, 0, 1, 1, 5, 14).method('c', 0, 0, 1, 1, 5, 14).method('d', 0, 0, 1, 1, 5, 14), 12,
            COVER, COVER, COVER).weave(), 12);
    }

    /** What needs a number has it from LOAD 0; the branch leads over NOTHINGs to PUSH 5, RETURN. */
    private static ClassBytes over(int op, int nothings) {
        int[] load = op == 10 ? of() : of(2, 0);
        int[] code = join(load, of(op, 2 + nothings), times(nothings, 0), of(1, 5, 14));
        return new ClassBytes().method('a', 1, 1, 1, code);
    }

    private static void waysForwards() {
        for (int op = 10; op <= 12; op++) {
            int[] load = op == 10 ? of() : of(2, 0);
            AdviceWeaver x = weave("22 + 2", over(op, 20), 1, COVER);
            check.code(op + " by 24 stays", x, true, 0,
                join(of(31, 0), load, of(op, 24, 31, 1), times(20, 0), of(31, 2, 1, 5, 14)));
            x = weave("23 + 2", over(op, 21), 1, COVER);
            check.code(op + " by 25 becomes wide", x, true, 0,
                join(of(31, 0), load, of(op + 10, 0, 26, 31, 1), times(21, 0), of(31, 2, 1, 5, 14)));
        }
        int[] code = join(of(10, 22), times(19, 0), of(14, 1, 5, 14));
        AdviceWeaver x = weave("22 + 2", new ClassBytes().method('a', 0, 0, 1, code), 1, TRACE);
        check.is("GOTO by 24 over a MARK stays", x.code(true, 0, 2), 10);
        check.is("its way", x.code(true, 0, 3), 24);
        code = join(of(10, 23), times(20, 0), of(14, 1, 5, 14));
        x = weave("23 + 2", new ClassBytes().method('a', 0, 0, 1, code), 1, TRACE);
        check.is("GOTO by 25 over a MARK becomes wide", x.code(true, 0, 2), 20);
        check.is("its way", x.code(true, 0, 4), 26);
    }

    private static void waysBackwards() {
        for (int op = 10; op <= 12; op++) {
            int[] push = op == 10 ? of() : of(1, 1);
            for (int way = -22; way >= -24; way--) {
                int[] nothings = times(-way - push.length, 0);
                int[] code = join(nothings, push, of(op, way, 1, 5, 14));
                AdviceWeaver x = weave(op + " by " + way, new ClassBytes().method('a', 0, 0, 1, code), 1, COVER);
                int[] branch = way == -22 ? of(op, -24) : of(op + 10, 255, way - 2);
                check.code(op + " by " + (way - 2), x, true, 0,
                    join(of(31, 0), nothings, push, branch, of(31, 1, 1, 5, 14)));
                x = weave(op + " by " + way, new ClassBytes().method('a', 0, 0, 1, code), 1, TRACE);
                check.code(op + " by " + way + " stays, for nothing is put between", x, true, 0,
                    join(of(30, 0), nothings, push, of(op, way, 1, 5, 30, 1, 14, 30, 2, 32)));
            }
        }
    }

    /** A way to a RETURN leads to the MARK before it, so that the MARK does not make the way longer. */
    private static void waysToWhatIsPutIn() {
        int[] code = join(of(1, 5, 10, 24), times(22, 0), of(14));
        AdviceWeaver x = weave("24 to a RETURN", new ClassBytes().method('a', 0, 0, 1, code), 1, TRACE);
        check.code("GOTO to the MARK", x, true, 0,
            join(of(30, 0, 1, 5, 10, 24), times(22, 0), of(30, 1, 14, 30, 2, 32)));
        check.is("it is run", x.run(true, 0, 0, 0, 9), 0);
        check.marks("with both MARKs", x, 0, 1);
    }

    /**
     * GOTO to itself; then, not reached, three IFs, each of which leads over the next one to what is behind that, so
     * that each that becomes wide makes the one before it too far; a THROW.
     */
    private static ClassBytes threeIfs(int nothings) {
        int[] code = join(of(10, 0), of(11, 12), times(2, 0), times(6, RETURN), of(12, 12), times(2, 0),
            times(6, RETURN), of(11, 9 + nothings), times(nothings, 0), times(7, RETURN), of(15));
        return new ClassBytes().method('a', 0, 0, 1, code);
    }

    private static void wideInThreeRounds() {
        AdviceWeaver x = weave("24, 24, 24", threeIfs(1), 1, TRACE);
        check.is("bytes", x.shape(true, 0, 0), 76);
        check.is("the first", x.code(true, 0, 4), 11);
        check.is("its way", x.code(true, 0, 5), 24);
        check.is("the second", x.code(true, 0, 26), 12);
        check.is("its way", x.code(true, 0, 27), 24);
        check.is("the third", x.code(true, 0, 48), 11);
        check.is("its way", x.code(true, 0, 49), 24);
        x = weave("24, 24, 25", threeIfs(2), 1, TRACE);
        check.is("bytes", x.shape(true, 0, 0), 80);
        int[] places = {4, 27, 50};
        int[] ops = {21, 22, 21};
        for (int i = 0; i < 3; i++) {
            check.is("wide " + i, x.code(true, 0, places[i]), ops[i]);
            check.is("its way, high", x.code(true, 0, places[i] + 1), 0);
            check.is("its way, low", x.code(true, 0, places[i] + 2), 26);
        }
        check.is("the THROW", x.code(true, 0, 76), 15);
        check.is("the GOTO to itself", x.code(true, 0, 2), 10);
        check.is("its way", x.code(true, 0, 3), 0);
        check.handler("the handler", x, true, 0, 0, 0, 77, 77, 0);
    }

    private static void formsAreKept() {
        for (int kind = TRACE; kind <= COVER; kind++) {
            ClassBytes file = new ClassBytes().method('a', 1, 1, 1, 2, 0, 21, 0, 3, 2, 0, 22, 0, 3, 20, 0, 3, 10, 0);
            AdviceWeaver x = weave("wide and short", file, 1, kind);
            int[] due = kind == TRACE
                ? of(30, 0, 2, 0, 21, 0, 3, 2, 0, 22, 0, 3, 20, 0, 3, 10, 0, 30, 2, 32)
                : of(31, 0, 2, 0, 21, 0, 3, 31, 1, 2, 0, 22, 0, 3, 31, 2, 20, 0, 3, 31, 3, 10, -2);
            check.code("wide ones stay wide, a short one short", x, true, 0, due);
        }
    }

    /** The second handler is of what is not reached: no other may have the first instruction as AT. */
    private static ClassBytes ledToTheFirst() {
        return new ClassBytes().method('a', 1, 1, 1, 0, 2, 0, 11, -3, 10, -5, 0, 0, 15)
            .handler(0, 1, 9, 3).handler(7, 9, 0, 4);
    }

    private static void whatLedToTheFirst() {
        AdviceWeaver x = weave("TRACE", ledToTheFirst(), 1, TRACE);
        check.code("branches do not lead to the MARK", x, true, 0,
            30, 0, 0, 2, 0, 11, -3, 10, -5, 0, 0, 15, 30, 2, 32);
        check.handler("START 0 does not", x, true, 0, 0, 2, 3, 11, 3);
        check.handler("AT 0 does not", x, true, 0, 1, 9, 11, 2, 4);
        check.handler("the new one's START is 0", x, true, 0, 2, 0, 12, 12, 0);
        x = weave("COVER", ledToTheFirst(), 1, COVER);
        check.code("branches lead to the PROBE", x, true, 0,
            31, 0, 0, 2, 0, 11, -5, 31, 1, 10, -9, 31, 2, 0, 0, 31, 3, 15);
        check.handler("START 0 leads to it", x, true, 0, 0, 0, 3, 15, 3);
        check.handler("AT 0 leads to it", x, true, 0, 1, 11, 15, 0, 4);
        x = weave("COVER, TRACE", ledToTheFirst(), 2, COVER, TRACE);
        check.is("the MARK is before the PROBE", x.code(true, 0, 0), 30);
        check.is("the IF leads to the PROBE", x.code(true, 0, 8), -5 & 255);
        check.handler("START to the PROBE", x, true, 0, 0, 2, 5, 17, 3);
        check.handler("AT to the PROBE", x, true, 0, 1, 13, 17, 2, 4);
        x = weave("TRACE, COVER", ledToTheFirst(), 2, TRACE, COVER);
        check.code("the old first is a LEADER of its own", x, true, 0,
            31, 0, 30, 0, 31, 1, 0, 2, 0, 11, -5, 31, 2, 10, -9, 31, 3, 0, 0, 31, 4, 15, 31, 5, 30, 2, 32);
        check.handler("the TRACE's START leads to the first PROBE", x, true, 0, 2, 0, 22, 22, 0);
        check.handler("the old START to the second", x, true, 0, 0, 4, 7, 19, 3);
    }

    /** PUSH 5, RETURN, RETURN; the handlers END at the second RETURN and at the length. */
    private static ClassBytes endings() {
        return new ClassBytes().method('a', 0, 0, 1, 1, 5, 14, 14).handler(2, 3, 3, 1).handler(2, 4, 3, 2);
    }

    private static void endThatWasTheLength() {
        AdviceWeaver x = weave("TRACE", endings(), 1, TRACE);
        check.code("code", x, true, 0, 30, 0, 1, 5, 30, 1, 14, 30, 1, 14, 30, 2, 32);
        check.handler("END at an instruction", x, true, 0, 0, 4, 7, 7, 1);
        check.handler("END at the length leads to H", x, true, 0, 1, 4, 10, 7, 2);
        x = weave("COVER", endings(), 1, COVER);
        check.code("code", x, true, 0, 31, 0, 1, 5, 14, 31, 1, 14);
        check.handler("END at an instruction", x, true, 0, 0, 4, 5, 5, 1);
        check.handler("END at the length leads to the end", x, true, 0, 1, 4, 8, 5, 2);
        x = weave("COVER, TRACE", endings(), 2, COVER, TRACE);
        check.handler("END at the length leads to the TRACE's H", x, true, 0, 1, 6, 14, 9, 2);
        x = weave("TRACE, TRACE", endings(), 2, TRACE, TRACE);
        check.code("code", x, true, 0,
            30, 3, 30, 0, 1, 5, 30, 1, 30, 4, 14, 30, 1, 30, 4, 14, 30, 2, 32, 30, 5, 32);
        check.handler("it stays at the first H", x, true, 0, 1, 6, 16, 11, 2);
        check.handler("and so does the first TRACE's", x, true, 0, 2, 2, 16, 16, 0);
        check.handler("the second TRACE's is behind it", x, true, 0, 3, 0, 19, 19, 0);
        x = weave("TRACE, COVER", endings(), 2, TRACE, COVER);
        check.code("code", x, true, 0, 31, 0, 30, 0, 1, 5, 30, 1, 14, 31, 1, 30, 1, 14, 31, 2, 30, 2, 32);
        check.handler("it leads to the PROBE before H", x, true, 0, 1, 6, 14, 9, 2);
    }

    private static void leadersOnce() {
        ClassBytes file = new ClassBytes().method('a', 1, 1, 1, 2, 0, 11, 2, 2, 0, 12, -2, 10, -4, 14)
            .handler(0, 2, 10, 0).handler(2, 4, 10, 0);
        AdviceWeaver x = weave("LEADERs for several reasons", file, 1, COVER);
        check.code("have one PROBE each", x, true, 0,
            31, 0, 2, 0, 11, 2, 31, 1, 2, 0, 12, -4, 31, 2, 10, -8, 31, 3, 14);
        x = weave("none behind the last", new ClassBytes().method('a', 0, 0, 1, 1, 5, 14), 1, COVER);
        check.code("so no PROBE there", x, true, 0, 31, 0, 1, 5, 14);
        file = new ClassBytes().method('a', 1, 1, 2, 2, 0, 8, 4, 3, 0, 16, 0, 1, 13, 1, 9, 0, 1, 5, 14)
            .method('b', 0, 0, 1, 1, 5, 14);
        x = weave("none behind what only goes on", file, 2, COVER);
        check.is("so two bytes more", x.shape(true, 0, 0), file.bytes()[6] + 2);
    }

    /** The number of a transformer is its place in the chain, whether or not those before it fit or failed. */
    private static void marksOfTheirNumber() {
        for (int t = 0; t < 3; t++) {
            AdviceWeaver x = new AdviceWeaver();
            new ClassBytes().method('a', 0, 0, 1, 1, 5, 14).loadInto(x);
            for (int i = 0; i < t; i++) {
                x.transformer(false, 'z', -1);
            }
            x.transformer(false, 'a', -1);
            check.is("weave", x.weave(), 1);
            check.code("TRACE " + t, x, true, 0, 30, 3 * t, 1, 5, 30, 3 * t + 1, 14, 30, 3 * t + 2, 32);
        }
        AdviceWeaver x = weave("a TRACE behind one that failed", new ClassBytes().method('a', 0, 0, 1,
            join(of(1, 5), times(38, RETURN))).method('b', 0, 0, 1, 1, 5, 14), 2, TRACE, TRACE);
        check.code("of the other method", x, true, 1, 30, 3, 30, 0, 1, 5, 30, 1, 30, 4, 14, 30, 2, 32, 30, 5, 32);
    }
}
