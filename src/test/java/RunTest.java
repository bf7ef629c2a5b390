/** Promises 9 (run), 10 (value), 11 (used), 12 (marks), 13 (mark) and 14 (probe). */
public final class RunTest {
    private static final Check check = new Check("RunTest");
    private static final int MIN = Integer.MIN_VALUE;
    private static final int MAX = Integer.MAX_VALUE;
    private static final int RETURNED = 0;
    private static final int THREW = 1;
    private static final int OUT = 2;
    private static final int DEEP = 3;

    public static void main(String[] args) {
        arithmetic();
        localsAndStack();
        branches();
        calls();
        leftOnTheStack();
        handlers();
        thrownThroughCalls();
        fuel();
        deep();
        wrongArguments();
        marksOfTraces();
        manyMarks();
        probes();
        wovenLikeLoaded();
        latestRunStays();
        check.finish();
    }

    private static void runs(String what, int outcome, int value, int a, int b, int... code) {
        AdviceWeaver x = new AdviceWeaver();
        check.is(what + ", load", new ClassBytes().method('m', 2, 3, 3, code).loadInto(x), 1);
        check.is(what + ", run", x.run(false, 0, a, b, 100), outcome);
        check.is(what + ", value", x.value(), value);
    }

    private static void arithmetic() {
        runs("ADD", RETURNED, 12, 7, 5, 2, 0, 2, 1, 4, 14);
        runs("ADD wraps", RETURNED, MIN, MAX, 1, 2, 0, 2, 1, 4, 14);
        runs("SUBTRACT takes b first", RETURNED, 2, 7, 5, 2, 0, 2, 1, 5, 14);
        runs("SUBTRACT wraps", RETURNED, MAX, MIN, 1, 2, 0, 2, 1, 5, 14);
        runs("MULTIPLY", RETURNED, -35, -7, 5, 2, 0, 2, 1, 6, 14);
        runs("MULTIPLY wraps", RETURNED, -2, MAX, 2, 2, 0, 2, 1, 6, 14);
        runs("DIVIDE takes b first", RETURNED, 3, 17, 5, 2, 0, 2, 1, 7, 14);
        runs("DIVIDE goes towards 0", RETURNED, -3, -17, 5, 2, 0, 2, 1, 7, 14);
        runs("DIVIDE wraps", RETURNED, MIN, MIN, -1, 2, 0, 2, 1, 7, 14);
        runs("DIVIDE by 0 throws 1", THREW, 1, 17, 0, 2, 0, 2, 1, 7, 14);
        runs("DIVIDE of 0", RETURNED, 0, 0, 17, 2, 0, 2, 1, 7, 14);
    }

    private static void localsAndStack() {
        runs("PUSH is signed", RETURNED, -128, 0, 0, 1, 128, 14);
        runs("PUSH 127", RETURNED, 127, 0, 0, 1, 127, 14);
        runs("NOTHING", RETURNED, 4, 4, 0, 0, 2, 0, 0, 14);
        runs("STORE", RETURNED, 9, 9, 4, 2, 0, 3, 2, 1, 1, 3, 0, 2, 2, 14);
        runs("DOUBLE", RETURNED, 81, 9, 4, 2, 0, 8, 6, 14);
        runs("DROP", RETURNED, 9, 9, 4, 2, 0, 2, 1, 9, 14);
        runs("GROW", RETURNED, 9 + 127, 9, 4, 16, 0, 127, 2, 0, 14);
        runs("GROW is signed", RETURNED, 9 - 128, 9, 4, 16, 0, 128, 2, 0, 14);
        runs("GROW wraps", RETURNED, MIN, MAX, 4, 16, 0, 1, 2, 0, 14);
        runs("RETURN takes the upper one", RETURNED, 4, 9, 4, 2, 0, 2, 1, 14);
        runs("THROW", THREW, 4, 9, 4, 2, 0, 2, 1, 15);
    }

    private static void branches() {
        int[] numbers = {MIN, -1, 0, 1, MAX};
        for (int a : numbers) {
            int ifZero = a == 0 ? 2 : 1;
            int ifNegative = a < 0 ? 2 : 1;
            runs("IF ZERO of " + a, RETURNED, ifZero, a, 0, 2, 0, 11, 5, 1, 1, 14, 1, 2, 14);
            runs("IF NEGATIVE of " + a, RETURNED, ifNegative, a, 0, 2, 0, 12, 5, 1, 1, 14, 1, 2, 14);
            runs("wide IF ZERO of " + a, RETURNED, ifZero, a, 0, 2, 0, 21, 0, 6, 1, 1, 14, 1, 2, 14);
            runs("wide IF NEGATIVE of " + a, RETURNED, ifNegative, a, 0, 2, 0, 22, 0, 6, 1, 1, 14, 1, 2, 14);
        }
        runs("GOTO", RETURNED, 2, 0, 0, 10, 5, 1, 1, 14, 1, 2, 14);
        runs("GOTO back", RETURNED, 2, 0, 0, 10, 5, 1, 2, 14, 10, -3);
        runs("wide GOTO", RETURNED, 2, 0, 0, 20, 0, 6, 1, 1, 14, 1, 2, 14);
        runs("wide GOTO back", RETURNED, 2, 0, 0, 10, 5, 1, 2, 14, 20, 255, 253);
    }

    private static void calls() {
        AdviceWeaver x = new AdviceWeaver();
        new ClassBytes().method('f', 2, 2, 3, 2, 0, 2, 1, 13, 1, 14)
            .method('g', 2, 3, 2, 2, 0, 2, 1, 5, 3, 2, 2, 2, 13, 2, 14)
            .method('h', 1, 1, 2, 2, 0, 13, 3, 4, 14)
            .method('k', 0, 0, 1, 1, 100, 14).loadInto(x);
        check.is("arguments come in their order", x.run(false, 0, 9, 4, 100), RETURNED);
        check.is("9 - 4 + 100", x.value(), 105);
        check.is("fuel of all methods", x.used(), 4 + 7 + 4 + 2);
        check.is("a method of one argument", x.run(false, 2, 7, 55, 100), RETURNED);
        check.is("takes a alone", x.value(), 107);
        check.is("a method without arguments", x.run(false, 3, 7, 55, 100), RETURNED);
        check.is("takes none", x.value(), 100);
    }

    /** What a method leaves on its stack is nobody's: neither the next CALL's nor the handler's. */
    private static void leftOnTheStack() {
        AdviceWeaver x = new AdviceWeaver();
        new ClassBytes()
            .method('f', 1, 2, 2, 1, 0, 3, 1, 2, 0, 11, 14, 2, 1, 13, 1, 4, 3, 1, 16, 0, -1, 10, -14, 2, 1, 14)
            .method('g', 0, 0, 4, 1, 1, 1, 2, 1, 3, 1, 4, 14).loadInto(x);
        for (int again = 0; again < 3; again++) {
            check.is("a loop of CALLs", x.run(false, 0, 20, 0, 1000), RETURNED);
            check.is("each gave 4", x.value(), 80);
        }
        new ClassBytes().method('f', 1, 2, 4, 1, 0, 3, 1, 10, 10, 2, 1, 4, 3, 1, 16, 0, -1, 2, 0, 11, 9,
            1, 7, 1, 8, 1, 9, 15, 2, 1, 14).handler(18, 25, 6, 9).loadInto(x);
        for (int again = 0; again < 3; again++) {
            check.is("a loop of THROWs", x.run(false, 0, 20, 0, 1000), RETURNED);
            check.is("each gave 9", x.value(), 180);
        }
    }

    private static AdviceWeaver handled() {
        AdviceWeaver x = new AdviceWeaver();
        new ClassBytes().method('f', 1, 1, 3, 1, 50, 1, 51, 2, 0, 15, 1, 7, 15, 14, 1, 1, 4, 14, 1, 2, 4, 14)
            .handler(0, 7, 11, 3).handler(6, 7, 15, 0).handler(6, 7, 10, 5).loadInto(x);
        return x;
    }

    private static void handlers() {
        AdviceWeaver x = handled();
        check.is("KIND 3", x.run(false, 0, 3, 0, 100), RETURNED);
        check.is("the stack is the number alone", x.value(), 3 + 1);
        check.is("KIND 0 before KIND 5", x.run(false, 0, 5, 0, 100), RETURNED);
        check.is("the first that fits", x.value(), 5 + 2);
        check.is("any number", x.run(false, 0, MIN, 0, 100), RETURNED);
        check.is("goes to KIND 0", x.value(), MIN + 2);
        check.is("fuel with a handler", x.used(), 4 + 3);
        AdviceWeaver y = new AdviceWeaver();
        new ClassBytes().method('f', 1, 1, 1, 0, 2, 0, 15, 14).handler(0, 3, 4, 0).handler(3, 4, 4, 9).loadInto(y);
        check.is("END is not in it", y.run(false, 0, 3, 0, 100), THREW);
        check.is("what it throws", y.value(), 3);
        check.is("START is in it", y.run(false, 0, 9, 0, 100), RETURNED);
        check.is("what it returns", y.value(), 9);
        new ClassBytes().method('f', 1, 1, 1, 2, 0, 15, 15).handler(0, 3, 3, 0).loadInto(y);
        check.is("THROW in a handler that does not cover it", y.run(false, 0, 8, 0, 100), THREW);
        check.is("throws the same", y.value(), 8);
        new ClassBytes().method('f', 1, 1, 1, 2, 0, 15, 15).handler(0, 4, 3, 0).loadInto(y);
        check.is("a handler that covers itself", y.run(false, 0, 8, 0, 100), OUT);
        check.is("takes all fuel", y.used(), 100);
        check.is("and throws nothing", y.value(), 0);
        new ClassBytes().method('f', 1, 1, 2, 1, 7, 2, 0, 7, 14, 14).handler(4, 5, 6, 1).loadInto(y);
        check.is("DIVIDE by 0 is thrown", y.run(false, 0, 0, 0, 100), RETURNED);
        check.is("as 1", y.value(), 1);
        check.is("fuel of it", y.used(), 4);
    }

    private static void thrownThroughCalls() {
        AdviceWeaver x = new AdviceWeaver();
        new ClassBytes().method('f', 1, 1, 2, 1, 9, 2, 0, 13, 1, 14, 1, 20, 4, 14).handler(4, 6, 7, 6)
            .method('g', 1, 1, 1, 2, 0, 13, 2, 14, 14).handler(0, 2, 5, 0)
            .method('h', 1, 1, 1, 2, 0, 15).loadInto(x);
        check.is("caught at the CALL", x.run(false, 0, 6, 0, 100), RETURNED);
        check.is("there", x.value(), 26);
        check.is("fuel", x.used(), 3 + 2 + 2 + 3);
        check.is("not caught", x.run(false, 0, 5, 0, 100), THREW);
        check.is("the number", x.value(), 5);
        check.is("fuel", x.used(), 7);
        check.is("a run after it", x.run(false, 0, 6, 0, 100), RETURNED);
        check.is("is as before", x.value(), 26);
    }

    private static void fuel() {
        AdviceWeaver x = new AdviceWeaver();
        new ClassBytes().method('f', 0, 0, 1, 0, 1, 7, 14).loadInto(x);
        for (int fuel = 1; fuel <= 4; fuel++) {
            check.is("run with fuel " + fuel, x.run(false, 0, 0, 0, fuel), fuel < 3 ? OUT : RETURNED);
            check.is("value with fuel " + fuel, x.value(), fuel < 3 ? 0 : 7);
            check.is("used of fuel " + fuel, x.used(), Math.min(fuel, 3));
        }
        x.transformer(false, 0, -1);
        x.transformer(true, 0, -1);
        x.weave();
        check.is("MARK and PROBE take none", x.run(true, 0, 0, 0, 3), RETURNED);
        check.is("used", x.used(), 3);
        check.is("OUT before RETURN", x.run(true, 0, 0, 0, 2), OUT);
        check.marks("what takes no fuel is done without it", x, 0, 1);
        new ClassBytes().method('f', 0, 0, 1, 1, 7, 15).loadInto(x);
        x.weave();
        check.is("RETHROW takes none", x.run(true, 0, 0, 0, 2), THREW);
        check.is("used", x.used(), 2);
        check.is("value", x.value(), 7);
        check.marks("MARKs", x, 0, 2);
        new ClassBytes().method('f', 0, 0, 1, 10, 0).loadInto(x);
        check.is("all the fuel there can be", x.run(false, 0, 0, 0, 1000), OUT);
        check.is("used", x.used(), 1000);
    }

    private static void deep() {
        AdviceWeaver x = new AdviceWeaver();
        ClassBytes file = new ClassBytes().method('r', 1, 1, 2, 2, 0, 11, 10, 2, 0, 1, -1, 4, 13, 0, 14, 1, 33, 14)
            .handler(9, 11, 11, 0);
        check.is("load", file.loadInto(x), 1);
        check.is("eight methods", x.run(false, 0, 7, 0, 100), RETURNED);
        check.is("value", x.value(), 33);
        check.is("used", x.used(), 7 * 7 + 4);
        check.is("a ninth one", x.run(false, 0, 8, 0, 100), DEEP);
        check.is("value", x.value(), 0);
        check.is("the CALL took its fuel", x.used(), 48);
        check.is("OUT before DEEP", x.run(false, 0, 8, 0, 47), OUT);
        check.is("DEEP with no fuel left", x.run(false, 0, 8, 0, 48), DEEP);
        x.transformer(false, 0, -1);
        x.weave();
        check.is("woven", x.run(true, 0, 8, 0, 100), DEEP);
        check.marks("the ninth one does not begin, and no handler takes it", x, 0, 0, 0, 0, 0, 0, 0, 0);
        check.is("the run after it", x.run(true, 0, 0, 0, 100), RETURNED);
        check.marks("is not as deep", x, 0, 1);
    }

    private static void wrongArguments() {
        AdviceWeaver x = new AdviceWeaver();
        new ClassBytes().method('f', 0, 0, 1, 1, 7, 14).method('g', 0, 0, 1, 1, 8, 15).loadInto(x);
        x.transformer(false, 0, -1);
        x.weave();
        x.run(true, 0, 0, 0, 50);
        int[] methods = {-1, 2, 3, 4, MIN, MAX};
        for (int m : methods) {
            check.is("method " + m, x.run(false, m, 0, 0, 10), -1);
            check.is("woven method " + m, x.run(true, m, 0, 0, 10), -1);
        }
        int[] fuels = {0, -1, 1001, MIN, MAX};
        for (int fuel : fuels) {
            check.is("fuel " + fuel, x.run(false, 1, 0, 0, fuel), -1);
        }
        check.is("nothing changed: value", x.value(), 7);
        check.is("nothing changed: used", x.used(), 2);
        check.marks("nothing changed", x, 0, 1);
        x.load();
        check.is("not woven", x.run(true, 1, 0, 0, 10), -1);
        check.is("nothing changed by that", x.value(), 7);
        check.is("as loaded", x.run(false, 1, 0, 0, 1000), THREW);
        check.is("value", x.value(), 8);
        check.marks("no MARKs in loaded code", x);
    }

    private static void marksOfTraces() {
        AdviceWeaver x = new AdviceWeaver();
        new ClassBytes().method('f', 1, 1, 1, 2, 0, 13, 1, 14, 14).handler(2, 4, 5, 3)
            .method('g', 1, 1, 1, 2, 0, 11, 5, 2, 0, 15, 1, 6, 14).loadInto(x);
        x.transformer(false, 0, -1);
        x.transformer(false, 'g', -1);
        x.transformer(false, 'f', -1);
        check.is("weave", x.weave(), 4);
        check.is("returns", x.run(true, 0, 0, 0, 50), RETURNED);
        check.marks("of a RETURN", x, 6, 0, 16 + 3, 16, 16 + 1, 16 + 4, 1, 7);
        check.is("caught", x.run(true, 0, 3, 0, 50), RETURNED);
        check.marks("of what is caught", x, 6, 0, 16 + 3, 16, 16 + 2, 16 + 5, 1, 7);
        check.is("not caught", x.run(true, 0, 4, 0, 50), THREW);
        check.is("value", x.value(), 4);
        check.marks("of what is not", x, 6, 0, 16 + 3, 16, 16 + 2, 16 + 5, 2, 8);
        check.is("mark -1", x.mark(-1), -1);
        check.is("mark of the least number", x.mark(MIN), -1);
        check.is("mark of the greatest number", x.mark(MAX), -1);
    }

    /** f calls g in a loop; with three TRACEs each CALL notes six MARKs. */
    private static void manyMarks() {
        AdviceWeaver x = new AdviceWeaver();
        new ClassBytes().method('f', 1, 1, 1, 2, 0, 11, 10, 13, 1, 9, 16, 0, -1, 10, -10, 1, 5, 14)
            .method('g', 0, 0, 1, 1, 6, 14).loadInto(x);
        for (int t = 0; t < 3; t++) {
            x.transformer(false, 'g', -1);
        }
        check.is("weave", x.weave(), 3);
        check.is("16 CALLs", x.run(true, 0, 16, 0, 1000), RETURNED);
        check.is("96 MARKs", x.marks(), 96);
        check.is("the last", x.mark(95), 16 + 7);
        check.is("none behind it", x.mark(96), -1);
        check.is("17 CALLs", x.run(true, 0, 17, 0, 1000), RETURNED);
        check.is("102 MARKs", x.marks(), 102);
        check.is("mark 99", x.mark(99), 16 + 1);
        check.is("mark 100 is not told", x.mark(100), -1);
        check.is("mark 101 is not told", x.mark(101), -1);
        check.is("100 CALLs", x.run(true, 0, 100, 0, 1000), RETURNED);
        check.is("600 MARKs", x.marks(), 600);
        check.is("mark 98", x.mark(98), 16 + 0);
        check.is("fewer MARKs after many", x.run(true, 0, 1, 0, 1000), RETURNED);
        check.marks("one CALL", x, 22, 19, 16, 17, 20, 23);
    }

    private static void probes() {
        AdviceWeaver x = new AdviceWeaver();
        new ClassBytes().method('f', 1, 1, 1, 2, 0, 11, 10, 13, 1, 9, 16, 0, -1, 10, -10, 1, 5, 14)
            .method('g', 0, 0, 1, 1, 6, 14).loadInto(x);
        x.transformer(true, 0, -1);
        x.transformer(true, 'g', -1);
        x.weave();
        check.is("run", x.run(true, 0, 12, 0, 1000), RETURNED);
        check.is("the loop's first", x.probe(0, 0), 13);
        check.is("behind the IF", x.probe(0, 1), 12);
        check.is("behind the loop", x.probe(0, 2), 1);
        check.is("no such PROBE", x.probe(0, 3), 0);
        check.is("both transformers' PROBE 0 of g", x.probe(1, 0), 24);
        check.is("no PROBE 1 of g", x.probe(1, 1), 0);
        check.marks("PROBEs are no MARKs", x);
        int[] wrong = {-1, 4, 5, 40, 100, MIN, MAX};
        for (int number : wrong) {
            check.is("method " + number, x.probe(number, 0), 0);
            check.is("PROBE " + number, x.probe(0, number), 0);
        }
        check.is("run as loaded", x.run(false, 0, 12, 0, 1000), RETURNED);
        check.is("notes none", x.probe(0, 0) + x.probe(1, 0), 0);
        manyProbes();
    }

    /** As many LEADERs as a method can have: all its instructions. */
    private static void manyProbes() {
        AdviceWeaver x = new AdviceWeaver();
        int[] code = new int[40];
        java.util.Arrays.fill(code, 14);
        code[0] = 1;
        code[1] = 5;
        ClassBytes file = new ClassBytes().method('f', 0, 0, 1, code).method('g', 0, 0, 1, code);
        check.is("load", file.handler(0, 2, 2, 0).loadInto(x), 2);
        x.transformer(true, 0, -1);
        check.is("weave", x.weave(), 2);
        check.is("bytes", x.shape(true, 1, 0), 40 + 2 * 39);
        check.is("the last PROBE", x.code(true, 1, 116), 38);
        check.is("run", x.run(true, 1, 0, 0, 1000), RETURNED);
        check.is("PROBE 0", x.probe(1, 0), 1);
        check.is("PROBE 1", x.probe(1, 1), 1);
        check.is("PROBE 2", x.probe(1, 2), 0);
        int[] far = java.util.Arrays.copyOf(code, 40);
        far[2] = 20;
        far[3] = 0;
        far[4] = 37;
        check.is("load", new ClassBytes().method('f', 0, 0, 1, far).loadInto(x), 1);
        check.is("weave", x.weave(), 1);
        check.is("run", x.run(true, 0, 0, 0, 1000), RETURNED);
        check.is("the last PROBE is noted", x.probe(0, 35), 1);
        check.is("and the one behind it is none", x.probe(0, 36), 0);
    }

    private static void wovenLikeLoaded() {
        AdviceWeaver x = handled();
        x.transformer(true, 0, -1);
        x.transformer(false, 0, -1);
        check.is("weave", x.weave(), 2);
        for (int a = -1; a < 8; a++) {
            for (int fuel = 1; fuel < 10; fuel++) {
                int outcome = x.run(false, 0, a, 0, fuel);
                int value = x.value();
                int used = x.used();
                check.is("the same outcome", x.run(true, 0, a, 0, fuel), outcome);
                check.is("the same value", x.value(), value);
                check.is("the same fuel", x.used(), used);
            }
        }
    }

    private static void latestRunStays() {
        AdviceWeaver x = new AdviceWeaver();
        new ClassBytes().method('f', 0, 0, 1, 1, 7, 14).method('g', 0, 0, 1, 1, 8, 14).loadInto(x);
        x.transformer(false, 0, -1);
        x.transformer(true, 0, -1);
        x.weave();
        x.run(true, 1, 0, 0, 50);
        new ClassBytes().method('z', 0, 0, 1, 1, 9, 14).loadInto(x);
        x.unchain();
        x.weave();
        check.is("value", x.value(), 8);
        check.is("used", x.used(), 2);
        check.marks("the run before", x, 16, 17);
        check.is("probe", x.probe(1, 0), 1);
    }
}
