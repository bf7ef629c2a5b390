/** INSTRUCTIONS: both sides of the numbers that they may have, in code that is reached and in code that is not. */
public final class InstructionEdgesTest {
    private static final Check check = new Check("InstructionEdgesTest");
    private static final int ILL_FORMED = -1000;

    public static void main(String[] args) {
        onlyTheseInstructions();
        cutAtTheEnd();
        localsBelowLocals();
        shortWays();
        shortWaysNotReached();
        wideWays();
        wideIsSignedAndHighFirst();
        waysCountFromTheFirstByte();
        methodOfCall();
        anyByteOfPushAndGrow();
        check.finish();
    }

    private static void one(String what, boolean right, int args, int locals, int stack, int... code) {
        int answer = new ClassBytes().method('m', args, locals, stack, code).load();
        check.is(what, answer, right ? 1 : ILL_FORMED);
    }

    private static int size(int op) {
        if (op == 0 || op >= 4 && op <= 9 || op == 14 || op == 15) {
            return 1;
        }
        if (op >= 1 && op <= 3 || op >= 10 && op <= 13) {
            return 2;
        }
        return op == 16 || op >= 20 && op <= 22 ? 3 : 0;
    }

    /**
     * Zeros are right numbers for all of them, and NOTHINGs behind the shorter ones; an IF that leads to itself is well
     * formed, but not sound.
     */
    private static void onlyTheseInstructions() {
        for (int op = 0; op < 256; op++) {
            one("instruction " + op + ", not reached", size(op) > 0, 1, 1, 8, 1, 5, 14, op, 0, 0);
            boolean isIf = op == 11 || op == 12 || op == 21 || op == 22;
            if (!isIf) {
                one("instruction " + op + ", reached", size(op) > 0, 1, 1, 8, 1, 5, 1, 5, op, 0, 0, 10, 0);
            }
        }
        for (int op = 30; op <= 32; op++) {
            one(op + " is in woven code alone", false, 0, 0, 1, 1, 5, 14, op, 0);
            one(op + " is in woven code alone, also as the last", false, 0, 0, 1, 1, 5, 14, op);
        }
    }

    private static void cutAtTheEnd() {
        for (int op = 0; op <= 22; op++) {
            int size = size(op);
            if (size == 0) {
                continue;
            }
            one(op + " with one byte", size == 1, 1, 1, 1, 1, 5, 14, op);
            one(op + " with two bytes", size <= 2, 1, 1, 1, 1, 5, 14, op, 0);
            one(op + " with three bytes", true, 1, 1, 1, 1, 5, 14, op, 0, 0);
        }
    }

    private static void localsBelowLocals() {
        for (int locals = 0; locals <= 6; locals++) {
            for (int n : new int[] {locals - 1, locals, locals + 1, 127, 128, 255}) {
                if (n < 0) {
                    continue;
                }
                boolean right = n < locals;
                String of = " " + n + " of LOCALS " + locals;
                one("LOAD" + of, right, 0, locals, 1, 1, 5, 14, 2, n);
                one("STORE" + of, right, 0, locals, 1, 1, 5, 14, 3, n);
                one("GROW" + of, right, 0, locals, 1, 1, 5, 14, 16, n, 1);
                one("STORE, GROW, LOAD, reached," + of, right, 0, locals, 1, 1, 5, 3, n, 16, n, 1, 2, n, 14);
            }
        }
    }

    /** PUSH 1, then the branch by so many, over NOTHINGs, to a GOTO to itself. */
    private static int[] forwards(int op, int way) {
        int[] code = new int[2 + way + 2];
        code[0] = 1;
        code[1] = 1;
        code[2] = op;
        code[op < 20 ? 3 : 4] = way;
        code[2 + way] = 10;
        return code;
    }

    /** NOTHINGs, for an IF a PUSH 1, then the branch back by so many to the first, PUSH 5, RETURN. */
    private static int[] backwards(int op, int way) {
        int size = op < 20 ? 2 : 3;
        int[] code = new int[way + size + 3];
        if (op != 10 && op != 20) {
            code[way - 2] = 1;
            code[way - 1] = 1;
        }
        code[way] = op;
        code[way + 1] = 255;
        code[way + size - 1] = -way;
        code[way + size] = 1;
        code[way + size + 1] = 5;
        code[way + size + 2] = 14;
        return code;
    }

    private static void shortWays() {
        for (int op = 10; op <= 12; op++) {
            for (int way = 3; way <= 30; way++) {
                one(op + " by " + way, way <= 24, 0, 0, 1, forwards(op, way));
                one(op + " by -" + way, way <= 24, 0, 0, 1, backwards(op, way));
            }
        }
    }

    /** Every byte as b; 26 NOTHINGs on either side that it may lead to. */
    private static void shortWaysNotReached() {
        for (int op = 10; op <= 12; op++) {
            for (int b = 0; b < 256; b++) {
                int way = b < 128 ? b : b - 256;
                int[] before = new int[40];
                before[0] = 10;
                before[38] = op;
                before[39] = b;
                one(op + " with b " + way + " at the end", way >= -24 && way <= 0, 0, 0, 1, before);
                int[] behind = new int[40];
                behind[0] = 10;
                behind[2] = op;
                behind[3] = b;
                one(op + " with b " + way + " at 2", way <= 24 && way >= 2 || way == 0 || way == -2, 0, 0, 1, behind);
            }
        }
    }

    private static void wideWays() {
        for (int op = 20; op <= 22; op++) {
            for (int way = 3; way <= 34; way++) {
                one(op + " by " + way, true, 0, 0, 1, forwards(op, way));
                one(op + " by -" + way, true, 0, 0, 1, backwards(op, way));
            }
        }
        int[] longest = new int[40];
        longest[0] = 20;
        longest[2] = 38;
        longest[38] = 10;
        one("wide GOTO by 38", true, 0, 0, 1, longest);
        int[] back = new int[40];
        back[37] = 20;
        back[38] = 255;
        back[39] = -37;
        one("wide GOTO by -37", true, 0, 0, 1, back);
    }

    private static void wideIsSignedAndHighFirst() {
        one("0, 3 is 3", true, 0, 0, 1, 20, 0, 3, 10, 0);
        one("3, 0 is 768", false, 0, 0, 1, 20, 3, 0, 10, 0);
        one("255, 255 is -1", true, 0, 0, 1, 0, 20, 255, 255);
        one("0, 255 is 255", false, 0, 0, 1, 0, 20, 0, 255);
        one("255, 0 is -256", false, 0, 0, 1, 0, 20, 255, 0);
        one("1, 3 is 259", false, 0, 0, 1, 20, 1, 3, 10, 0);
        one("128, 3 is far back", false, 0, 0, 1, 20, 128, 3, 10, 0);
        one("127, 255 is far", false, 0, 0, 1, 0, 20, 127, 255);
    }

    private static void waysCountFromTheFirstByte() {
        one("GOTO by 0 leads to itself", true, 0, 0, 1, 10, 0);
        one("wide GOTO by 0 leads to itself", true, 0, 0, 1, 20, 0, 0);
        one("GOTO by 1 leads into itself", false, 0, 0, 1, 10, 1, 10, 0);
        one("GOTO by 2 leads behind itself", true, 0, 0, 1, 10, 2, 10, 0);
        one("GOTO by 3 leads into the next", false, 0, 0, 1, 10, 3, 10, 0);
        AdviceWeaver x = new AdviceWeaver();
        new ClassBytes().method('m', 0, 0, 1, 10, 5, 1, 1, 14, 1, 2, 14, 1, 3, 14).loadInto(x);
        check.is("GOTO by 5", x.run(false, 0, 0, 0, 9), 0);
        check.is("goes to 5", x.value(), 2);
        new ClassBytes().method('m', 0, 0, 1, 20, 0, 6, 1, 1, 14, 1, 2, 14, 1, 3, 14).loadInto(x);
        check.is("wide GOTO by 6", x.run(false, 0, 0, 0, 9), 0);
        check.is("goes to 6", x.value(), 2);
    }

    private static void methodOfCall() {
        for (int methods = 1; methods <= 4; methods++) {
            for (int k : new int[] {0, methods - 1, methods, methods + 1, 4, 128, 255}) {
                boolean right = k < methods;
                for (int m = 0; m < methods; m++) {
                    check.is("CALL " + k + " of " + methods + " methods, reached, in " + m,
                        calling(methods, m, 13, k, 14).load(), right ? methods : ILL_FORMED - m);
                    check.is("CALL " + k + " of " + methods + " methods, not reached, in " + m,
                        calling(methods, m, 1, 5, 14, 13, k).load(), right ? methods : ILL_FORMED - m);
                }
            }
        }
    }

    private static ClassBytes calling(int methods, int caller, int... code) {
        ClassBytes file = new ClassBytes();
        for (int m = 0; m < methods; m++) {
            file.method((char) ('a' + m), 0, 0, 1, m == caller ? code : new int[] {1, 5, 14});
        }
        return file;
    }

    private static void anyByteOfPushAndGrow() {
        for (int b = 0; b < 256; b++) {
            int due = b < 128 ? b : b - 256;
            AdviceWeaver x = new AdviceWeaver();
            check.is("PUSH " + b, new ClassBytes().method('m', 0, 0, 1, 1, b, 14).loadInto(x), 1);
            check.is("run", x.run(false, 0, 0, 0, 9), 0);
            check.is("puts a signed byte", x.value(), due);
            check.is("GROW " + b, new ClassBytes().method('m', 1, 1, 1, 16, 0, b, 2, 0, 14).loadInto(x), 1);
            check.is("run", x.run(false, 0, 1000, 0, 9), 0);
            check.is("adds a signed byte", x.value(), 1000 + due);
        }
    }
}
