/** Promises 8 and 10 to 14: before the first weaving or run, after a refused one, and numbers outside. */
public final class LatestRunEdgesTest {
    private static final Check check = new Check("LatestRunEdgesTest");
    private static final int NONE = AdviceWeaver.NONE;
    private static final int MIN = Integer.MIN_VALUE;
    private static final int MAX = Integer.MAX_VALUE;
    private static final int RETURNED = 0;
    private static final int OUT = 2;

    public static void main(String[] args) {
        failedBeforeAndAfter();
        failedOutside();
        loadedButNotRun();
        valueOfEachEnd();
        usedOfEachEnd();
        refusedRunsLeaveTheLatest();
        marksAtTheHundredth();
        marksFarAboveTheHundredth();
        markOutside();
        probeOutside();
        probeOfTheLastLeader();
        probesOfMethodsAreTheirOwn();
        notedBeforeTheEnd();
        check.finish();
    }

    private static AdviceWeaver loaded(ClassBytes file) {
        AdviceWeaver x = new AdviceWeaver();
        check.is("the class is sound", file.loadInto(x) > 0, true);
        return x;
    }

    private static int[] returns(int count) {
        int[] code = new int[2 + count];
        java.util.Arrays.fill(code, 14);
        code[0] = 1;
        return code;
    }

    private static void failedBeforeAndAfter() {
        AdviceWeaver x = loaded(new ClassBytes().method('a', 0, 0, 1, returns(38)));
        check.is("before a weaving", x.failed(0, 0), false);
        x.transformer(false, 0, -1);
        check.is("with a transformer, before a weaving", x.failed(0, 0), false);
        check.is("weave", x.weave(), 0);
        check.is("after it", x.failed(0, 0), true);
        x.unchain();
        check.is("unchain does not weave", x.failed(0, 0), true);
        check.is("a wrong load", ClassBytes.loadInto(x, 202), -2);
        check.is("changes nothing", x.failed(0, 0), true);
        check.is("a run", x.run(true, 0, 0, 0, 9), RETURNED);
        check.is("changes nothing there", x.failed(0, 0), true);
        x.transformer(false, 'z', -1);
        check.is("weave with one that does not fit", x.weave(), 0);
        check.is("it does not fail", x.failed(0, 0), false);
        x.unchain();
        x.transformer(true, 0, -1);
        x.transformer(false, 0, -1);
        check.is("weave with one that fits and one that fails", x.weave(), 1);
        check.is("the first does not fail", x.failed(0, 0), false);
        check.is("the second does", x.failed(0, 1), true);
        check.is("there is no third", x.failed(0, 2), false);
        check.is("another class", new ClassBytes().method('a', 0, 0, 1, returns(38)).loadInto(x), 1);
        check.is("has not been woven", x.failed(0, 1), false);
    }

    private static void failedOutside() {
        AdviceWeaver x = loaded(new ClassBytes().method('a', 0, 0, 1, returns(38)).method('b', 0, 0, 1, returns(38)));
        for (int t = 0; t < 3; t++) {
            x.transformer(false, 0, -1);
        }
        check.is("all fail", x.weave(), 0);
        for (int m = 0; m < 4; m++) {
            for (int t = 0; t < 3; t++) {
                check.is("failed " + m + " " + t, x.failed(m, t), m < 2);
            }
        }
        for (int number : new int[] {MIN, -2, -1, 3, 4, 5, 6, 100, MAX}) {
            check.is("transformer " + number, x.failed(0, number), false);
            check.is("transformer " + number + " of the second", x.failed(1, number), false);
            check.is("method " + number, x.failed(number, 0), false);
            check.is("method " + number + ", the last transformer", x.failed(number, 2), false);
        }
    }

    private static void loadedButNotRun() {
        AdviceWeaver x = loaded(States.LARGE);
        x.transformer(false, 0, -1);
        x.transformer(true, 0, -1);
        x.weave();
        for (int again = 0; again < 2; again++) {
            check.is("value", x.value(), 0);
            check.is("used", x.used(), 0);
            check.marks("not run", x);
            check.is("probe", x.probe(0, 0), 0);
            check.is("a refused run", x.run(true, 4, 0, 0, 9), NONE);
        }
    }

    /** The method throws what is negative, returns 9 for 0, and for all else calls itself without end. */
    private static void valueOfEachEnd() {
        AdviceWeaver x = loaded(ending());
        check.is("returned", x.run(false, 0, 0, 0, 99), RETURNED);
        check.is("value", x.value(), 9);
        check.is("threw", x.run(false, 0, -5, 0, 99), 1);
        check.is("value", x.value(), -5);
        check.is("threw the least", x.run(false, 0, MIN, 0, 99), 1);
        check.is("value", x.value(), MIN);
        check.is("OUT", x.run(false, 0, 0, 0, 3), OUT);
        check.is("value", x.value(), 0);
        check.is("threw", x.run(false, 0, -5, 0, 99), 1);
        check.is("DEEP", x.run(false, 0, 1, 0, 99), 3);
        check.is("value", x.value(), 0);
        check.is("a method that returns 0", new ClassBytes().method('m', 0, 0, 1, 1, 0, 14).loadInto(x), 1);
        check.is("returned", x.run(false, 0, 0, 0, 99), RETURNED);
        check.is("value", x.value(), 0);
    }

    private static ClassBytes ending() {
        return new ClassBytes().method('m', 1, 1, 1, 2, 0, 12, 11, 2, 0, 11, 10, 2, 0, 13, 0, 14, 2, 0, 15, 1, 9, 14);
    }

    private static void usedOfEachEnd() {
        AdviceWeaver x = loaded(ending());
        check.is("not run", x.used(), 0);
        check.is("returned", x.run(false, 0, 0, 0, 99), RETURNED);
        check.is("used", x.used(), 6);
        check.is("threw", x.run(false, 0, -5, 0, 99), 1);
        check.is("used", x.used(), 4);
        check.is("OUT", x.run(false, 0, 0, 0, 5), OUT);
        check.is("used", x.used(), 5);
        check.is("DEEP", x.run(false, 0, 1, 0, 99), 3);
        check.is("used", x.used(), 8 * 6);
    }

    private static void refusedRunsLeaveTheLatest() {
        AdviceWeaver x = loaded(new ClassBytes().method('a', 0, 0, 1, 1, 5, 15));
        x.transformer(false, 0, -1);
        x.transformer(true, 0, -1);
        x.weave();
        check.is("threw", x.run(true, 0, 0, 0, 9), 1);
        int[][] refused = {{-1, 9}, {1, 9}, {0, 0}, {0, 1001}, {4, 1001}, {MAX, MAX}, {MIN, MIN}};
        for (int[] pair : refused) {
            check.is("refused", x.run(true, pair[0], 0, 0, pair[1]), NONE);
            check.is("refused", x.run(false, pair[0], 0, 0, pair[1]), NONE);
            check.is("value", x.value(), 5);
            check.is("used", x.used(), 2);
            check.marks("after a refused run", x, 0, 2);
            check.is("probe 0", x.probe(0, 0), 1);
            check.is("probe 1", x.probe(0, 1), 1);
        }
    }

    /** f, without a TRACE, calls g so often as its argument tells; each CALL of g notes two MARKs, 16 and 17. */
    private static AdviceWeaver marking() {
        AdviceWeaver x = loaded(new ClassBytes()
            .method('f', 1, 1, 1, 2, 0, 11, 10, 13, 1, 9, 16, 0, -1, 10, -10, 1, 5, 14).method('g', 0, 0, 1, 1, 6, 14));
        x.transformer(false, 'g', -1);
        x.weave();
        return x;
    }

    private static void marksAtTheHundredth() {
        AdviceWeaver x = marking();
        check.is("49 CALLs", x.run(true, 0, 49, 0, 1000), RETURNED);
        check.is("98 MARKs", x.marks(), 98);
        check.is("mark 97", x.mark(97), 17);
        check.is("mark 98", x.mark(98), NONE);
        check.is("mark 99", x.mark(99), NONE);
        check.is("a MARK more: fuel to the 50th CALL", x.run(true, 0, 50, 0, 49 * 8 + 3), OUT);
        check.is("99 MARKs", x.marks(), 99);
        check.is("mark 98", x.mark(98), 16);
        check.is("mark 99", x.mark(99), NONE);
        check.is("50 CALLs", x.run(true, 0, 50, 0, 1000), RETURNED);
        check.is("100 MARKs", x.marks(), 100);
        check.is("mark 98", x.mark(98), 16);
        check.is("mark 99", x.mark(99), 17);
        check.is("mark 100", x.mark(100), NONE);
        check.is("a MARK more: fuel to the 51st CALL", x.run(true, 0, 51, 0, 50 * 8 + 3), OUT);
        check.is("101 MARKs", x.marks(), 101);
        check.is("mark 99", x.mark(99), 17);
        check.is("mark 100 is there, but above 99", x.mark(100), NONE);
        check.is("51 CALLs", x.run(true, 0, 51, 0, 1000), RETURNED);
        check.is("102 MARKs", x.marks(), 102);
        check.is("mark 100 is there, but above 99", x.mark(100), NONE);
        check.is("mark 101 is there, but above 99", x.mark(101), NONE);
        check.is("mark 102", x.mark(102), NONE);
    }

    private static void marksFarAboveTheHundredth() {
        AdviceWeaver x = marking();
        x.unchain();
        for (int t = 0; t < 3; t++) {
            x.transformer(false, 0, -1);
        }
        x.weave();
        check.is("124 CALLs", x.run(true, 0, 124, 0, 1000), RETURNED);
        check.is("MARKs", x.marks(), 6 * 125);
        int[] cycle = {16 + 6, 16 + 3, 16, 16 + 1, 16 + 4, 16 + 7};
        int[] first = {6, 3, 0};
        for (int k = 0; k < 100; k++) {
            check.is("mark " + k, x.mark(k), k < 3 ? first[k] : cycle[(k - 3) % 6]);
        }
        check.is("mark 100", x.mark(100), NONE);
        check.is("mark 749", x.mark(749), NONE);
        check.is("mark 750", x.mark(750), NONE);
        check.is("one CALL", x.run(true, 0, 1, 0, 1000), RETURNED);
        check.marks("the many are gone", x, 6, 3, 0, 22, 19, 16, 17, 20, 23, 1, 4, 7);
        check.is("mark 99", x.mark(99), NONE);
        check.is("as loaded", x.run(false, 0, 1, 0, 1000), RETURNED);
        check.marks("none at all", x);
    }

    private static void markOutside() {
        AdviceWeaver x = marking();
        check.is("200 MARKs", x.run(true, 0, 100, 0, 1000), RETURNED);
        for (int k : new int[] {MIN, -100, -1, 100, 101, 199, 200, 255, 256, MAX}) {
            check.is("mark " + k, x.mark(k), NONE);
        }
        check.is("mark 0", x.mark(0), 16);
    }

    private static void probeOutside() {
        AdviceWeaver x = loaded(new ClassBytes().method('a', 0, 0, 1, 1, 5, 14).method('b', 0, 0, 1, 13, 0, 14)
            .method('c', 0, 0, 1, 13, 1, 14).method('d', 0, 0, 1, 13, 2, 14));
        x.transformer(true, 0, -1);
        check.is("weave", x.weave(), 4);
        check.is("all four run", x.run(true, 3, 0, 0, 99), RETURNED);
        for (int m = 0; m < 4; m++) {
            check.is("probe 0 of " + m, x.probe(m, 0), 1);
            for (int p : new int[] {MIN, -40, -1, 1, 2, 39, 40, 41, 80, 120, 255, 256, MAX}) {
                check.is("probe " + p + " of " + m, x.probe(m, p), 0);
            }
        }
        for (int m : new int[] {MIN, -1, 4, 5, 16, MAX}) {
            check.is("probe 0 of " + m, x.probe(m, 0), 0);
        }
    }

    /** All instructions are LEADERs, and the last is gone to. */
    private static void probeOfTheLastLeader() {
        int[] code = returns(38);
        code[2] = 20;
        code[3] = 0;
        code[4] = 37;
        AdviceWeaver x = loaded(new ClassBytes().method('a', 0, 0, 1, code));
        x.transformer(true, 0, -1);
        check.is("weave", x.weave(), 1);
        int last = x.code(true, 0, x.shape(true, 0, 0) - 2);
        check.is("the last PROBE", last, 35);
        check.is("run", x.run(true, 0, 0, 0, 9), RETURNED);
        for (int p = 0; p <= 36; p++) {
            check.is("probe " + p, x.probe(0, p), p == 0 || p == 35 ? 1 : 0);
        }
        code = returns(38);
        code[1] = 0;
        x = loaded(new ClassBytes().method('a', 0, 0, 1, code));
        x.transformer(true, 0, -1);
        check.is("weave", x.weave(), 1);
        check.is("the greatest PROBE there is", x.code(true, 0, 114), 37);
    }

    private static void probesOfMethodsAreTheirOwn() {
        AdviceWeaver x = loaded(States.LARGE);
        x.transformer(true, 0, -1);
        x.transformer(true, 'g', -1);
        check.is("weave", x.weave(), 5);
        check.is("run", x.run(true, 0, 7, 0, 99), RETURNED);
        check.is("f, the loop", x.probe(0, 0), 8);
        check.is("f, behind the IF", x.probe(0, 1), 7);
        check.is("f, behind the GOTO", x.probe(0, 2), 1);
        check.is("g, of both transformers", x.probe(1, 0), 14);
        check.is("h was not run", x.probe(2, 0), 0);
        check.is("i was not run", x.probe(3, 0), 0);
        check.is("as loaded", x.run(false, 0, 7, 0, 99), RETURNED);
        check.is("nothing is noted", x.probe(0, 0) + x.probe(1, 0), 0);
        check.is("run of i", x.run(true, 3, 7, 0, 99), RETURNED);
        check.is("i", x.probe(3, 0), 1);
        check.is("what it catches", x.probe(3, 1), 1);
        check.is("f is not of the latest run", x.probe(0, 0), 0);
    }

    private static void notedBeforeTheEnd() {
        AdviceWeaver x = loaded(new ClassBytes().method('r', 0, 0, 1, 13, 0, 14));
        x.transformer(true, 0, -1);
        x.transformer(false, 0, -1);
        x.weave();
        check.is("OUT", x.run(true, 0, 0, 0, 5), OUT);
        check.is("PROBEs before it", x.probe(0, 0), 6);
        check.is("MARKs before it", x.marks(), 6);
        check.is("DEEP", x.run(true, 0, 0, 0, 99), 3);
        check.is("PROBEs before it", x.probe(0, 0), 8);
        check.is("MARKs before it", x.marks(), 8);
    }
}
