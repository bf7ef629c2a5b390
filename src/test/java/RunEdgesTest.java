/** A RUN: wrapping, DIVIDE by 0, what handlers take, fuel, and the ninth method. */
public final class RunEdgesTest {
    private static final Check check = new Check("RunEdgesTest");
    private static final int MIN = Integer.MIN_VALUE;
    private static final int MAX = Integer.MAX_VALUE;
    private static final int RETURNED = 0;
    private static final int THREW = 1;
    private static final int OUT = 2;
    private static final int DEEP = 3;

    public static void main(String[] args) {
        wrapping();
        growWraps();
        divideByZero();
        divideByZeroIsThrownAsOne();
        branchesAtZero();
        kindsAndNumbers();
        handlersFromStartToEnd();
        firstHandlerThatFits();
        fuelOfEachInstruction();
        fuelToTheLast();
        freeInstructionsWithoutFuel();
        outIsNotCaught();
        ninthMethod();
        ninthOfSeveral();
        deepIsNotCaught();
        deepOrOut();
        argumentsThatItHas();
        fullStack();
        whatIsBelowStays();
        check.finish();
    }

    private static AdviceWeaver loaded(ClassBytes file) {
        AdviceWeaver x = new AdviceWeaver();
        check.is("the class is sound", file.loadInto(x) > 0, true);
        return x;
    }

    private static AdviceWeaver woven(ClassBytes file, boolean... covers) {
        AdviceWeaver x = loaded(file);
        for (boolean cover : covers) {
            x.transformer(cover, 0, -1);
        }
        x.weave();
        return x;
    }

    private static void runs(String what, AdviceWeaver x, int a, int b, int outcome, int value) {
        check.is(what, x.run(false, 0, a, b, 100), outcome);
        check.is(what + ", value", x.value(), value);
    }

    private static void wrapping() {
        int[][] table = {
            {4, MAX, 1, MIN}, {4, MAX, 0, MAX}, {4, MIN, -1, MAX}, {4, MIN, 0, MIN}, {4, MAX, MAX, -2}, {4, MIN, MIN, 0},
            {5, MIN, 1, MAX}, {5, MIN, 0, MIN}, {5, MAX, -1, MIN}, {5, 0, MIN, MIN}, {5, -1, MIN, MAX}, {5, 0, MAX, -MAX},
            {6, MAX, 2, -2}, {6, MIN, 2, 0}, {6, MIN, -1, MIN}, {6, 65536, 65536, 0}, {6, 65536, 32767, 2147418112},
            {6, 65536, 32768, MIN}, {6, MAX, MAX, 1}, {6, -65536, 32768, MIN},
            {7, MIN, -1, MIN}, {7, MAX, -1, -MAX}, {7, MIN, 1, MIN}, {7, MIN, MIN, 1}, {7, MAX, MIN, 0}, {7, 7, -2, -3},
            {7, -7, 2, -3}, {7, -7, -2, 3}, {7, 1, 2, 0}, {7, -1, 2, 0}};
        for (int[] row : table) {
            AdviceWeaver x = loaded(new ClassBytes().method('m', 2, 2, 2, 2, 0, 2, 1, row[0], 14));
            runs(row[0] + " of " + row[1] + " and " + row[2], x, row[1], row[2], RETURNED, row[3]);
        }
    }

    private static void growWraps() {
        AdviceWeaver up = loaded(new ClassBytes().method('m', 1, 1, 1, 16, 0, 127, 2, 0, 14));
        runs("GROW to the greatest", up, MAX - 127, 0, RETURNED, MAX);
        runs("GROW above the greatest", up, MAX - 126, 0, RETURNED, MIN);
        AdviceWeaver down = loaded(new ClassBytes().method('m', 1, 1, 1, 16, 0, -128, 2, 0, 14));
        runs("GROW to the least", down, MIN + 128, 0, RETURNED, MIN);
        runs("GROW below the least", down, MIN + 127, 0, RETURNED, MAX);
        AdviceWeaver none = loaded(new ClassBytes().method('m', 1, 1, 1, 16, 0, 0, 2, 0, 14));
        runs("GROW by 0", none, MIN, 0, RETURNED, MIN);
    }

    private static void divideByZero() {
        AdviceWeaver x = loaded(new ClassBytes().method('m', 2, 2, 2, 2, 0, 2, 1, 7, 14));
        for (int a : new int[] {MIN, -1, 0, 1, 17, MAX}) {
            runs(a + " by 0", x, a, 0, THREW, 1);
            runs(a + " by 1", x, a, 1, RETURNED, a);
        }
        runs("0 by -1", x, 0, -1, RETURNED, 0);
    }

    /** The DIVIDE stands at 6; behind the RETURN of its value another. */
    private static void divideByZeroIsThrownAsOne() {
        for (int kind = 0; kind <= 9; kind++) {
            ClassBytes file = new ClassBytes().method('m', 2, 2, 3, 1, 50, 2, 0, 2, 1, 7, 14, 1, 70, 4, 14)
                .handler(6, 7, 8, kind);
            AdviceWeaver x = loaded(file);
            boolean takes = kind <= 1;
            runs("handler of KIND " + kind, x, 9, 0, takes ? RETURNED : THREW, takes ? 71 : 1);
            check.is("fuel", x.used(), takes ? 7 : 4);
            runs("that nothing comes to", x, 9, 3, RETURNED, 3);
        }
    }

    private static void branchesAtZero() {
        for (int a : new int[] {MIN, MIN + 1, -1, 0, 1, MAX}) {
            for (int wide = 0; wide <= 10; wide += 10) {
                int[] ifZero = wide == 0 ? new int[] {2, 0, 11, 5, 1, 1, 14, 1, 2, 14}
                    : new int[] {2, 0, 21, 0, 6, 1, 1, 14, 1, 2, 14};
                int[] ifNegative = ifZero.clone();
                ifNegative[2]++;
                AdviceWeaver x = loaded(new ClassBytes().method('m', 1, 1, 1, ifZero));
                runs("IF ZERO of " + a, x, a, 0, RETURNED, a == 0 ? 2 : 1);
                x = loaded(new ClassBytes().method('m', 1, 1, 1, ifNegative));
                runs("IF NEGATIVE of " + a, x, a, 0, RETURNED, a < 0 ? 2 : 1);
            }
        }
    }

    private static void kindsAndNumbers() {
        for (int kind = 0; kind <= 9; kind++) {
            AdviceWeaver x = loaded(new ClassBytes().method('m', 1, 1, 2, 2, 0, 15, 1, 100, 4, 14).handler(2, 3, 3, kind));
            for (int number : new int[] {MIN, -9, -1, 0, 1, 2, 3, 4, 5, 6, 7, 8, 9, 10, 256, 265, MAX}) {
                boolean takes = kind == 0 || kind == number;
                runs("KIND " + kind + ", thrown " + number, x, number, 0, takes ? RETURNED : THREW,
                    takes ? number + 100 : number);
            }
        }
    }

    /** NOTHING, LOAD 0, THROW at 3, RETURN. */
    private static void handlersFromStartToEnd() {
        int[][] ranges = {{0, 3}, {3, 4}, {0, 4}, {1, 4}, {0, 1}, {3, 5}, {4, 5}};
        for (int[] range : ranges) {
            AdviceWeaver x = loaded(new ClassBytes().method('m', 1, 1, 1, 0, 2, 0, 15, 14).handler(range[0], range[1], 4, 0));
            boolean takes = range[0] <= 3 && 3 < range[1];
            runs("from " + range[0] + " to " + range[1], x, 7, 0, takes ? RETURNED : THREW, 7);
        }
        AdviceWeaver x = loaded(new ClassBytes().method('m', 1, 1, 2, 0, 2, 0, 13, 1, 14, 1, 100, 4, 14)
            .handler(3, 5, 6, 0).method('n', 1, 1, 1, 2, 0, 15));
        runs("what a method throws is thrown at its CALL", x, 7, 0, RETURNED, 107);
        x = loaded(new ClassBytes().method('m', 1, 1, 2, 0, 2, 0, 13, 1, 14, 1, 100, 4, 14)
            .handler(5, 6, 6, 0).method('n', 1, 1, 1, 2, 0, 15));
        runs("and not behind it", x, 7, 0, THREW, 7);
        x = loaded(new ClassBytes().method('m', 1, 1, 2, 0, 2, 0, 13, 1, 14, 1, 100, 4, 14)
            .handler(0, 3, 6, 0).method('n', 1, 1, 1, 2, 0, 15));
        runs("and not before it", x, 7, 0, THREW, 7);
    }

    /** LOAD 0, THROW at 2, then three that return 1, 2, 3 and what was thrown. */
    private static void firstHandlerThatFits() {
        int[] code = {2, 0, 15, 1, 10, 4, 14, 1, 20, 4, 14, 1, 30, 4, 14};
        int[][] kinds = {{0, 0, 0}, {5, 0, 0}, {5, 6, 0}, {6, 5, 0}, {6, 6, 5}, {0, 5, 5}, {6, 6, 6}};
        int[] due = {10, 10, 10, 20, 30, 10, 0};
        for (int i = 0; i < kinds.length; i++) {
            AdviceWeaver x = loaded(new ClassBytes().method('m', 1, 1, 2, code).handler(2, 3, 3, kinds[i][0])
                .handler(2, 3, 7, kinds[i][1]).handler(2, 3, 11, kinds[i][2]));
            runs("of three handlers, row " + i, x, 5, 0, due[i] == 0 ? THREW : RETURNED, due[i] + 5);
        }
    }

    private static void fuelOfEachInstruction() {
        int[][] codes = {{0}, {1, 7}, {2, 0}, {3, 1}, {4}, {5}, {6}, {7}, {8}, {9}, {10, 2}, {11, 2}, {12, 2}, {13, 1},
            {16, 0, 1}, {20, 0, 3}, {21, 0, 3}, {22, 0, 3}};
        for (int[] code : codes) {
            int[] whole = new int[6 + code.length + 2];
            whole[0] = 1;
            whole[2] = 1;
            whole[3] = 1;
            whole[4] = 1;
            whole[5] = 2;
            System.arraycopy(code, 0, whole, 6, code.length);
            whole[6 + code.length] = 9;
            whole[7 + code.length] = 14;
            AdviceWeaver x = loaded(new ClassBytes().method('m', 1, 2, 8, whole).method('n', 0, 0, 1, 1, 5, 14));
            int due = code[0] == 13 ? 8 : 6;
            check.is(code[0] + " with enough", x.run(false, 0, 0, 0, due), RETURNED);
            check.is(code[0] + " takes one", x.used(), due);
            check.is(code[0] + " with one less", x.run(false, 0, 0, 0, due - 1), OUT);
            check.is(code[0] + " takes all", x.used(), due - 1);
        }
        AdviceWeaver x = loaded(new ClassBytes().method('m', 0, 0, 1, 1, 5, 15));
        check.is("THROW with enough", x.run(false, 0, 0, 0, 2), THREW);
        check.is("takes one", x.used(), 2);
        check.is("THROW with one less", x.run(false, 0, 0, 0, 1), OUT);
    }

    private static void fuelToTheLast() {
        AdviceWeaver x = loaded(new ClassBytes().method('m', 1, 1, 1, 2, 0, 11, 7, 16, 0, -1, 10, -7, 1, 9, 14));
        check.is("4 * 100 + 4 of 404", x.run(false, 0, 100, 0, 404), RETURNED);
        check.is("used", x.used(), 404);
        check.is("value", x.value(), 9);
        check.is("4 * 100 + 4 of 403", x.run(false, 0, 100, 0, 403), OUT);
        check.is("used", x.used(), 403);
        check.is("value", x.value(), 0);
        check.is("4 * 249 + 4 of 1000", x.run(false, 0, 249, 0, 1000), RETURNED);
        check.is("used", x.used(), 1000);
        check.is("4 * 250 + 4 of 1000", x.run(false, 0, 250, 0, 1000), OUT);
        check.is("used", x.used(), 1000);
        check.is("1 of 1", x.run(false, 0, 0, 0, 1), OUT);
        check.is("used", x.used(), 1);
        check.is("value", x.value(), 0);
    }

    /** The woven code is done as the loaded one is: what takes no fuel is done when there is none left. */
    private static void freeInstructionsWithoutFuel() {
        AdviceWeaver x = woven(new ClassBytes().method('m', 0, 0, 1, 1, 5, 14), false, true);
        check.is("enough for RETURN", x.run(true, 0, 0, 0, 2), RETURNED);
        check.marks("the MARKs", x, 0, 1);
        check.is("the PROBE", x.probe(0, 0), 1);
        check.is("not enough for RETURN", x.run(true, 0, 0, 0, 1), OUT);
        check.marks("the MARK before it", x, 0, 1);
        check.is("used", x.used(), 1);
        x = woven(new ClassBytes().method('m', 0, 0, 1, 1, 5, 15), false, true, false);
        check.is("enough for THROW", x.run(true, 0, 0, 0, 2), THREW);
        check.is("thrown by RETHROWs", x.value(), 5);
        check.is("that take none", x.used(), 2);
        check.marks("the MARKs", x, 6, 0, 2, 8);
        check.is("the PROBE before H", x.probe(0, 1), 1);
        check.is("not enough for THROW", x.run(true, 0, 0, 0, 1), OUT);
        check.marks("the first MARKs", x, 6, 0);
    }

    private static void outIsNotCaught() {
        AdviceWeaver x = woven(new ClassBytes().method('m', 0, 0, 1, 10, 0, 14).handler(0, 2, 2, 0), false);
        check.is("as loaded", x.run(false, 0, 0, 0, 50), OUT);
        check.is("used", x.used(), 50);
        check.is("value", x.value(), 0);
        check.is("as woven", x.run(true, 0, 0, 0, 50), OUT);
        check.marks("no MARK of an end", x, 0);
    }

    /** Calls itself with one less until it has 0; then returns 33. */
    private static ClassBytes countdown() {
        return new ClassBytes().method('r', 1, 1, 2, 2, 0, 11, 10, 2, 0, 1, -1, 4, 13, 0, 14, 1, 33, 14);
    }

    private static void ninthMethod() {
        AdviceWeaver x = woven(countdown(), true);
        for (int a = 0; a <= 7; a++) {
            check.is((a + 1) + " methods", x.run(false, 0, a, 0, 100), RETURNED);
            check.is("value", x.value(), 33);
            check.is("used", x.used(), 7 * a + 4);
            check.is((a + 1) + " woven methods", x.run(true, 0, a, 0, 100), RETURNED);
            check.is("PROBEs", x.probe(0, 0), a + 1);
        }
        for (int a = 8; a <= 10; a++) {
            check.is((a + 1) + " methods", x.run(false, 0, a, 0, 100), DEEP);
            check.is("value", x.value(), 0);
            check.is("used", x.used(), 48);
            check.is((a + 1) + " woven methods", x.run(true, 0, a, 0, 100), DEEP);
            check.is("PROBEs", x.probe(0, 0), 8);
        }
        check.is("after that, eight again", x.run(false, 0, 7, 0, 100), RETURNED);
        check.is("value", x.value(), 33);
    }

    /** Methods that are done are not under way: nine CALLs one after the other are right. */
    private static void ninthOfSeveral() {
        AdviceWeaver x = loaded(new ClassBytes().method('m', 1, 1, 1, 2, 0, 11, 10, 13, 1, 9, 16, 0, -1, 10, -10, 1, 5, 14)
            .method('n', 0, 0, 1, 1, 6, 14));
        check.is("nine CALLs", x.run(false, 0, 9, 0, 100), RETURNED);
        x = loaded(new ClassBytes().method('m', 1, 1, 1, 2, 0, 11, 10, 13, 1, 9, 16, 0, -1, 10, -10, 1, 5, 14)
            .handler(4, 6, 6, 0).method('n', 0, 0, 1, 1, 6, 15));
        check.is("nine CALLs that throw", x.run(false, 0, 9, 0, 100), RETURNED);
        check.is("used", x.used(), 8 * 9 + 4);
        x = loaded(new ClassBytes().method('m', 1, 1, 2, 2, 0, 11, 10, 2, 0, 1, -1, 4, 13, 1, 14, 1, 33, 14)
            .method('n', 1, 1, 2, 2, 0, 11, 10, 2, 0, 1, -1, 4, 13, 0, 14, 1, 44, 14));
        runs("eight of two methods", x, 7, 0, RETURNED, 44);
        runs("nine of two methods", x, 8, 0, DEEP, 0);
        runs("seven of two methods", x, 6, 0, RETURNED, 33);
    }

    private static void deepIsNotCaught() {
        ClassBytes file = new ClassBytes().method('r', 0, 0, 1, 13, 0, 14, 14).handler(0, 2, 3, 0);
        AdviceWeaver x = woven(file, false);
        check.is("as loaded", x.run(false, 0, 0, 0, 100), DEEP);
        check.is("eight CALLs", x.used(), 8);
        check.is("value", x.value(), 0);
        check.is("as woven", x.run(true, 0, 0, 0, 100), DEEP);
        check.marks("eight began", x, 0, 0, 0, 0, 0, 0, 0, 0);
    }

    private static void deepOrOut() {
        AdviceWeaver x = loaded(new ClassBytes().method('r', 0, 0, 1, 13, 0, 14));
        for (int fuel = 1; fuel <= 10; fuel++) {
            check.is("CALLs with fuel " + fuel, x.run(false, 0, 0, 0, fuel), fuel < 8 ? OUT : DEEP);
            check.is("used", x.used(), Math.min(fuel, 8));
        }
    }

    private static void argumentsThatItHas() {
        AdviceWeaver x = loaded(new ClassBytes().method('m', 0, 0, 1, 1, 5, 14).method('n', 1, 1, 1, 2, 0, 14)
            .method('o', 2, 2, 2, 2, 0, 2, 1, 5, 14).method('p', 2, 2, 2, 2, 0, 2, 1, 13, 2, 14));
        int[] due = {5, MIN, MIN - MAX, MIN - MAX};
        for (int m = 0; m < 4; m++) {
            check.is("method " + m, x.run(false, m, MIN, MAX, 100), RETURNED);
            check.is("value", x.value(), due[m]);
        }
    }

    /** PUSH 1, 2, 4, .. or what is there already and 2, 4, ..; then ADD them all. */
    private static int[] sumOfEight(boolean oneIsThere) {
        int[] code = new int[(oneIsThere ? 14 : 16) + 8];
        int at = 0;
        for (int i = oneIsThere ? 1 : 0; i < 8; i++) {
            code[at] = 1;
            code[at + 1] = i == 7 ? -128 : 1 << i;
            at += 2;
        }
        java.util.Arrays.fill(code, at, at + 7, 4);
        code[at + 7] = 14;
        return code;
    }

    private static void fullStack() {
        AdviceWeaver x = woven(new ClassBytes().method('m', 0, 0, 8, sumOfEight(false)), false, true);
        runs("eight numbers", x, 0, 0, RETURNED, 127 - 128);
        check.is("eight numbers, woven", x.run(true, 0, 0, 0, 100), RETURNED);
        check.is("value", x.value(), -1);
        int[] sum = sumOfEight(true);
        int[] code = new int[8 + sum.length];
        for (int i = 0; i < 3; i++) {
            code[2 * i] = 1;
            code[2 * i + 1] = 1;
        }
        code[6] = 15;
        System.arraycopy(sum, 0, code, 7, sum.length);
        code = java.util.Arrays.copyOf(code, 7 + sum.length);
        x = woven(new ClassBytes().method('m', 0, 0, 8, code).handler(6, 7, 7, 1), true);
        runs("seven and what was thrown with three", x, 0, 0, RETURNED, -1);
        check.is("the same, woven", x.run(true, 0, 0, 0, 100), RETURNED);
        check.is("value", x.value(), -1);
        x = loaded(new ClassBytes().method('m', 0, 0, 8, 1, 1, 1, 2, 1, 3, 1, 4, 1, 5, 1, 6, 1, 7, 13, 1, 4, 14)
            .method('n', 0, 0, 8, sumOfEight(false)));
        runs("eight numbers in a method called with seven", x, 0, 0, RETURNED, 6);
    }

    /** 40 and 2, then numbers for the instruction; what it leaves is dropped, and 40 - 2 is returned. */
    private static void whatIsBelowStays() {
        int[][] table = {{0, 0, 0}, {1, 0, 1, 9}, {2, 0, 1, 0}, {3, 1, 0, 1}, {4, 2, 1}, {5, 2, 1}, {6, 2, 1}, {7, 2, 1},
            {8, 1, 2}, {9, 1, 0}, {10, 0, 0, 2}, {11, 1, 0, 2}, {12, 1, 0, 2}, {13, 0, 1, 1}, {13, 1, 1, 2}, {13, 2, 1, 3},
            {16, 0, 0, 0, 5}, {20, 0, 0, 0, 3}, {21, 1, 0, 0, 3}, {22, 1, 0, 0, 3}};
        for (int[] row : table) {
            for (int number : new int[] {-3, 0, 3}) {
                int[] code = new int[40];
                int at = 0;
                for (int i = 0; i < 2 + row[1]; i++) {
                    code[at] = 1;
                    code[at + 1] = i == 0 ? 40 : i == 1 ? 2 : i == 2 ? number : 5;
                    at += 2;
                }
                code[at] = row[0];
                at++;
                for (int i = 3; i < row.length; i++) {
                    code[at] = row[i];
                    at++;
                }
                for (int i = 0; i < row[2]; i++) {
                    code[at] = 9;
                    at++;
                }
                code[at] = 5;
                code[at + 1] = 14;
                AdviceWeaver x = loaded(new ClassBytes().method('m', 1, 2, 8, java.util.Arrays.copyOf(code, at + 2))
                    .method('n', 0, 0, 1, 1, 9, 14).method('o', 1, 1, 1, 1, 9, 14).method('p', 2, 2, 1, 1, 9, 14));
                runs("below " + row[0], x, 1, 0, RETURNED, 38);
            }
        }
    }
}
