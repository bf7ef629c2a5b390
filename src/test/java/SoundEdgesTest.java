import java.util.Arrays;

/** SOUND: what an instruction takes, STACK, locals that are set, the code's end, two depths, and the handlers' states. */
public final class SoundEdgesTest {
    private static final Check check = new Check("SoundEdgesTest");
    private static final int UNSOUND = -1000;
    private static final int PUSH = 1;

    public static void main(String[] args) {
        whatInstructionsTake();
        whatCallTakes();
        whatTheyLeave();
        noMoreThanStack();
        callAndStack();
        firstArgsLocalsAreSet();
        storeSets();
        setOnAllWays();
        behindTheEnd();
        twoDepths();
        handlerFromStartToEnd();
        handlerBeginsWithDepthOne();
        handlerHasTheSetAsItIs();
        handlersOfAnyKind();
        onlyWhatCanBeReached();
        farthestState();
        unsoundBeforeIllFormed();
        check.finish();
    }

    private static void one(String what, boolean right, int args, int locals, int stack, int... code) {
        check.is(what, new ClassBytes().method('m', args, locals, stack, code).load(), right ? 1 : UNSOUND);
    }

    /** So many PUSHes, then these. */
    private static int[] pushed(int pushes, int... behind) {
        int[] code = new int[2 * pushes + behind.length];
        for (int i = 0; i < pushes; i++) {
            code[2 * i] = PUSH;
        }
        System.arraycopy(behind, 0, code, 2 * pushes, behind.length);
        return code;
    }

    /** The instruction; behind it a GOTO to itself, which is sound at any depth. */
    private static int[] instruction(int op) {
        switch (op) {
            case 3:
                return new int[] {3, 0, 10, 0};
            case 11:
            case 12:
                return new int[] {op, 2, 10, 0};
            case 21:
            case 22:
                return new int[] {op, 0, 3, 10, 0};
            default:
                return new int[] {op, 10, 0};
        }
    }

    private static void whatInstructionsTake() {
        int[][] takes = {{4, 2}, {5, 2}, {6, 2}, {7, 2}, {8, 1}, {3, 1}, {9, 1}, {11, 1}, {12, 1}, {21, 1}, {22, 1},
            {14, 1}, {15, 1}};
        for (int[] pair : takes) {
            for (int depth = 0; depth <= 4; depth++) {
                one(pair[0] + " with " + depth, depth >= pair[1], 0, 1, 8, pushed(depth, instruction(pair[0])));
            }
        }
        one("PUSH takes none", true, 0, 0, 1, 1, 0, 10, 0);
        one("LOAD takes none", true, 1, 1, 1, 2, 0, 10, 0);
        one("GROW takes none", true, 1, 1, 1, 16, 0, 1, 10, 0);
        one("NOTHING takes none", true, 0, 0, 1, 0, 10, 0);
        one("GOTO takes none", true, 0, 0, 1, 10, 0);
        one("wide GOTO takes none", true, 0, 0, 1, 20, 0, 0);
    }

    private static ClassBytes calling(int args, int stack, int depth) {
        return new ClassBytes().method('m', 0, 0, stack, pushed(depth, 13, 1, 10, 0))
            .method('n', args, args, 1, PUSH, 5, 14);
    }

    private static void whatCallTakes() {
        for (int args = 0; args <= 2; args++) {
            for (int depth = 0; depth <= 4; depth++) {
                check.is("CALL of " + args + " arguments with " + depth, calling(args, 8, depth).load(),
                    depth >= args ? 2 : UNSOUND);
            }
        }
    }

    private static void depthBehind(String what, int due, int place, int args, int locals, int... code) {
        AdviceWeaver x = new AdviceWeaver();
        check.is(what, new ClassBytes().method('m', args, locals, 8, code).method('n', 0, 0, 1, 1, 5, 14)
            .method('o', 1, 1, 1, 1, 5, 14).method('p', 2, 2, 1, 1, 5, 14).loadInto(x), 4);
        check.is(what + " leaves", x.depth(false, 0, place), due);
    }

    private static void whatTheyLeave() {
        depthBehind("NOTHING", 3, 7, 0, 1, pushed(3, 0, 10, 0));
        depthBehind("PUSH", 4, 8, 0, 1, pushed(3, 1, 0, 10, 0));
        depthBehind("LOAD", 4, 8, 1, 1, pushed(3, 2, 0, 10, 0));
        depthBehind("STORE", 2, 8, 0, 1, pushed(3, 3, 0, 10, 0));
        for (int op = 4; op <= 7; op++) {
            depthBehind("4 to 7", 2, 7, 0, 1, pushed(3, op, 10, 0));
        }
        depthBehind("DOUBLE", 4, 7, 0, 1, pushed(3, 8, 10, 0));
        depthBehind("DROP", 2, 7, 0, 1, pushed(3, 9, 10, 0));
        depthBehind("GOTO", 3, 8, 0, 1, pushed(3, 10, 2, 10, 0));
        depthBehind("wide GOTO", 3, 9, 0, 1, pushed(3, 20, 0, 3, 10, 0));
        for (int op = 11; op <= 12; op++) {
            depthBehind("IF that goes on", 2, 8, 0, 1, pushed(3, op, 4, 10, 0, 10, 0));
            depthBehind("IF that branches", 2, 10, 0, 1, pushed(3, op, 4, 10, 0, 10, 0));
            depthBehind("wide IF that goes on", 2, 9, 0, 1, pushed(3, op + 10, 0, 5, 10, 0, 10, 0));
            depthBehind("wide IF that branches", 2, 11, 0, 1, pushed(3, op + 10, 0, 5, 10, 0, 10, 0));
        }
        for (int args = 0; args <= 2; args++) {
            depthBehind("CALL of " + args, 4 - args, 8, 0, 1, pushed(3, 13, 1 + args, 10, 0));
        }
        depthBehind("GROW", 3, 9, 1, 1, pushed(3, 16, 0, 1, 10, 0));
    }

    private static void noMoreThanStack() {
        for (int stack = 1; stack <= 8; stack++) {
            one("PUSH to STACK " + stack, true, 1, 1, stack, pushed(stack, 10, 0));
            one("PUSH above STACK " + stack, false, 1, 1, stack, pushed(stack + 1, 10, 0));
            one("LOAD to STACK " + stack, true, 1, 1, stack, pushed(stack - 1, 2, 0, 10, 0));
            one("LOAD above STACK " + stack, false, 1, 1, stack, pushed(stack, 2, 0, 10, 0));
            one("DOUBLE above STACK " + stack, false, 1, 1, stack, pushed(stack, 8, 10, 0));
            one("what puts none at STACK " + stack, true, 1, 1, stack, pushed(stack, 0, 16, 0, 1, 10, 2, 9, 10, 0));
            one("STORE at STACK " + stack, true, 1, 1, stack, pushed(stack, 3, 0, 10, 0));
            one("above STACK and down again, " + stack, false, 1, 1, stack, pushed(stack + 1, 9, 10, 0));
            if (stack > 1) {
                one("DOUBLE to STACK " + stack, true, 1, 1, stack, pushed(stack - 1, 8, 10, 0));
                one("ADD at STACK " + stack, true, 1, 1, stack, pushed(stack, 4, 10, 0));
            }
        }
        one("above STACK, as the last thing before RETURN", false, 0, 0, 1, 1, 5, 1, 5, 14);
    }

    private static void callAndStack() {
        for (int stack = 1; stack <= 8; stack++) {
            check.is("CALL of none to STACK " + stack, calling(0, stack, stack - 1).load(), 2);
            check.is("CALL of none above STACK " + stack, calling(0, stack, stack).load(), UNSOUND);
            check.is("CALL of one at STACK " + stack, calling(1, stack, stack).load(), 2);
            if (stack > 1) {
                check.is("CALL of two at STACK " + stack, calling(2, stack, stack).load(), 2);
            }
        }
    }

    private static void firstArgsLocalsAreSet() {
        for (int args = 0; args <= 2; args++) {
            for (int n = 0; n < 6; n++) {
                one("LOAD " + n + " with ARGS " + args, n < args, args, 6, 1, 2, n, 14);
                one("GROW " + n + " with ARGS " + args, n < args, args, 6, 1, 16, n, 1, 10, 0);
                one("STORE " + n + " with ARGS " + args, true, args, 6, 1, 1, 5, 3, n, 10, 0);
            }
        }
    }

    private static void storeSets() {
        for (int n = 0; n < 6; n++) {
            for (int other = 0; other < 6; other++) {
                one("STORE " + n + ", LOAD " + other, n == other, 0, 6, 1, 1, 5, 3, n, 2, other, 14);
                one("STORE " + n + ", GROW " + other, n == other, 0, 6, 1, 1, 5, 3, n, 16, other, 1, 10, 0);
            }
            one("GROW does not set", false, 0, 6, 1, 16, n, 1, 2, n, 14);
        }
    }

    /** LOAD 0, IF ZERO over what may STORE 1, then LOAD 1, RETURN. */
    private static void setOnAllWays() {
        one("set before the ways part", true, 1, 2, 1, 1, 5, 3, 1, 2, 0, 11, 3, 0, 2, 1, 14);
        one("set on the way that goes on", false, 1, 2, 1, 2, 0, 11, 6, 1, 5, 3, 1, 2, 1, 14);
        one("set on the way that branches", false, 1, 2, 1, 2, 0, 11, 4, 10, 6, 1, 5, 3, 1, 2, 1, 14);
        one("set on both", true, 1, 2, 1, 2, 0, 11, 8, 1, 5, 3, 1, 10, 6, 1, 6, 3, 1, 2, 1, 14);
        one("other locals on the two ways", false, 1, 3, 1, 2, 0, 11, 8, 1, 5, 3, 1, 10, 6, 1, 6, 3, 2, 2, 1, 14);
        one("set behind the LOAD in a loop", false, 1, 2, 1, 2, 1, 3, 1, 10, -4);
        one("set before a loop", true, 1, 2, 1, 1, 5, 3, 1, 2, 1, 3, 1, 10, -4);
        one("not set on a way that is not reached", true, 1, 2, 1, 1, 5, 3, 1, 2, 1, 14, 10, -3);
    }

    private static void behindTheEnd() {
        int[][] goOn = {{0}, {1, 0}, {2, 0}, {3, 0}, {4}, {5}, {6}, {7}, {8}, {9}, {13, 0}, {16, 0, 1}};
        for (int[] code : goOn) {
            one(code[0] + " as the last", false, 1, 1, 8, pushed(3, code));
            one(code[0] + " not as the last", true, 1, 1, 8, pushed(3, join(code, 10, 0)));
            one(code[0] + " as the last, not reached", true, 1, 1, 8, join(new int[] {10, 0}, code));
        }
        int[][] branches = {{11, -2}, {12, -2}, {21, 255, -2}, {22, 255, -2}};
        for (int[] code : branches) {
            one(code[0] + " as the last", false, 1, 1, 8, pushed(1, code));
            one(code[0] + " not as the last", true, 1, 1, 8, pushed(1, join(code, 10, 0)));
            one(code[0] + " as the last, not reached", true, 1, 1, 8, join(new int[] {10, 0}, code));
        }
        int[][] ends = {{10, 0}, {14}, {15}, {20, 0, 0}};
        for (int[] code : ends) {
            one(code[0] + " as the last", true, 1, 1, 8, pushed(3, code));
        }
        handled("a handler's code comes behind the end", false, 0, 2, 2, 10, 0, 9);
        handled("a handler's code does not", true, 0, 2, 2, 10, 0, 15);
    }

    private static int[] join(int[] first, int... second) {
        int[] both = Arrays.copyOf(first, first.length + second.length);
        System.arraycopy(second, 0, both, first.length, second.length);
        return both;
    }

    private static void twoDepths() {
        one("depth 0 and 1 by an IF", false, 1, 1, 2, 2, 0, 11, 4, 1, 5, 10, 0);
        one("depth 0 and 0 by an IF", true, 1, 1, 2, 2, 0, 11, 5, 1, 5, 9, 10, 0);
        one("depth 1 and 2 by an IF", false, 1, 1, 3, 1, 5, 2, 0, 12, 4, 1, 5, 14);
        one("depth 1 and 1 by an IF", true, 1, 1, 3, 1, 5, 2, 0, 12, 5, 1, 5, 9, 14);
        one("depth 0 and 1 by a GOTO back", false, 0, 0, 8, 1, 5, 10, -2);
        one("depth 0 and 0 by a GOTO back", true, 0, 0, 8, 1, 5, 9, 10, -3);
        one("depth 1 and 0 by a GOTO back", false, 0, 0, 8, 1, 5, 9, 10, -1);
        one("depth 0 and 1 by a wide GOTO back", false, 0, 0, 8, 1, 5, 20, 255, -2);
        one("depth 0 and 0 by a wide GOTO back", true, 0, 0, 8, 1, 5, 9, 20, 255, -3);
        one("depth 0 and 1 by an IF back", false, 0, 0, 8, 1, 5, 8, 11, -3, 10, 0);
        one("depth 0 and 0 by an IF back", true, 0, 0, 8, 1, 5, 11, -2, 10, 0);
    }

    /** GOTO over two NOTHINGs to a GOTO to itself, which is reached with depth 0: no state may be in the handler. */
    private static void handlerFromStartToEnd() {
        int[] code = {10, 4, 0, 0, 10, 0};
        handled("from the unreached to the unreached", true, 2, 3, 4, code);
        handled("END at a reached one", true, 2, 4, 4, code);
        handled("START behind a reached one", true, 3, 4, 4, code);
        handled("START at a reached one", false, 0, 2, 4, code);
        handled("a reached one before END", false, 2, 6, 4, code);
        handled("START at the last one", false, 4, 6, 4, code);
        handled("all", false, 0, 6, 4, code);
    }

    private static void handled(String what, boolean right, int start, int end, int at, int... code) {
        ClassBytes file = new ClassBytes().method('m', 0, 0, 1, code).handler(start, end, at, 0);
        check.is(what, file.load(), right ? 1 : UNSOUND);
    }

    private static void handlerBeginsWithDepthOne() {
        for (int depth = 0; depth <= 3; depth++) {
            int[] code = pushed(depth, 0, 10, 0, 10, 0);
            int at = 2 * depth + 3;
            AdviceWeaver x = new AdviceWeaver();
            ClassBytes file = new ClassBytes().method('m', 0, 0, 8, code).handler(2 * depth, 2 * depth + 1, at, 0);
            check.is("thrown with depth " + depth, file.loadInto(x), 1);
            check.is("goes on with one", x.depth(false, 0, at), 1);
            file = new ClassBytes().method('m', 0, 0, 8, code).handler(2 * depth, 2 * depth + 1, at - 2, 0);
            check.is("to where one comes with " + depth, file.load(), depth == 1 ? 1 : UNSOUND);
        }
        handled("with STACK 1", true, 0, 2, 3, 10, 0, 9, 10, 0);
        handled("a PUSH there is above STACK", false, 0, 2, 2, 10, 0, 1, 5, 10, 0);
        handled("ADD there has one alone", false, 0, 2, 2, 10, 0, 4, 10, 0);
    }

    /** The handler's code DROPs, LOADs 0 and RETURNs; RETURN and THROW are in a handler too. */
    private static void handlerHasTheSetAsItIs() {
        int[] code = {1, 5, 3, 0, 0, 10, 0, 9, 2, 0, 14};
        for (int start : new int[] {0, 2, 4, 5}) {
            ClassBytes file = new ClassBytes().method('m', 0, 1, 1, code).handler(start, 7, 7, 0);
            check.is("from " + start + " on", file.load(), start >= 4 ? 1 : UNSOUND);
        }
        ClassBytes file = new ClassBytes().method('m', 0, 1, 1, 1, 5, 15, 9, 10, 0).handler(2, 3, 3, 0);
        check.is("THROW", file.load(), 1);
        file = new ClassBytes().method('m', 0, 1, 1, 1, 5, 14, 9, 2, 0, 14).handler(2, 3, 3, 0);
        check.is("RETURN too, and 0 is not set", file.load(), UNSOUND);
        file = new ClassBytes().method('m', 0, 1, 1, 1, 5, 15, 9, 2, 0, 14).handler(2, 3, 3, 0);
        check.is("THROW, and 0 is not set", file.load(), UNSOUND);
    }

    private static void handlersOfAnyKind() {
        for (int kind = 0; kind <= 9; kind++) {
            ClassBytes file = new ClassBytes().method('m', 0, 0, 1, 0, 10, 0).handler(0, 1, 1, kind);
            check.is("a handler of KIND " + kind + " gives a second depth", file.load(), UNSOUND);
        }
        AdviceWeaver x = new AdviceWeaver();
        ClassBytes file = new ClassBytes().method('m', 0, 0, 1, 0, 10, 0, 10, 0, 10, 0, 10, 0)
            .handler(0, 1, 3, 0).handler(0, 1, 5, 0).handler(0, 1, 7, 4);
        check.is("each handler counts, not the first alone", file.loadInto(x), 1);
        for (int at = 3; at <= 7; at += 2) {
            check.is("AT " + at, x.depth(false, 0, at), 1);
        }
    }

    private static void onlyWhatCanBeReached() {
        one("taking more than is there, reached", false, 0, 1, 1, 4, 10, 0);
        one("taking more than is there, not reached", true, 0, 1, 1, 10, 0, 4, 10, 0);
        one("above STACK, not reached", true, 0, 1, 1, 10, 0, 1, 5, 1, 5, 14);
        one("LOAD of what is not set, not reached", true, 0, 1, 1, 10, 0, 2, 0, 14);
        one("GROW of what is not set, not reached", true, 0, 1, 1, 10, 0, 16, 0, 1, 14);
        one("behind the end, not reached", true, 0, 1, 1, 10, 0, 0);
        one("two depths, not reached", true, 0, 1, 1, 10, 0, 1, 5, 10, -2);
        handled("a handler of what is not reached", true, 2, 3, 2, 10, 0, 4);
        handled("a handler of what is reached", false, 0, 2, 2, 10, 0, 4, 10, 0);
        one("both ways of an IF are reached, whatever the number", false, 0, 1, 1, 1, 0, 11, 3, 4, 10, 0);
        one("and the other way too", false, 0, 1, 1, 1, 1, 11, 4, 10, 0, 4, 10, 0);
    }

    /** A wide GOTO to the last of GOTOs that each lead to the one before it, the first of them to what stands at 3. */
    private static void farthestState() {
        for (int last : new int[] {0, 4, 8, 9, 14, 15}) {
            int[] code = new int[40];
            code[0] = 20;
            code[2] = 38;
            code[3] = last;
            for (int at = 4; at < 40; at += 2) {
                code[at] = 10;
                code[at + 1] = at == 4 ? -1 : -2;
            }
            one("what is reached last is " + last, last == 0, 0, 0, 1, code);
        }
    }

    private static void unsoundBeforeIllFormed() {
        int[] right = {1, 5, 14};
        int[] unsound = {14};
        int[] illFormed = {33};
        check.is("0 unsound, 1 ill formed", classOf(unsound, illFormed).load(), UNSOUND);
        check.is("0 ill formed, 1 unsound", classOf(illFormed, unsound).load(), UNSOUND);
        check.is("1 unsound, 2 ill formed", classOf(right, unsound, illFormed).load(), UNSOUND - 1);
        check.is("1 ill formed, 2 unsound", classOf(right, illFormed, unsound).load(), UNSOUND - 1);
        check.is("3 unsound", classOf(right, right, right, unsound).load(), UNSOUND - 3);
        check.is("3 ill formed", classOf(right, right, right, illFormed).load(), UNSOUND - 3);
        check.is("none", classOf(right, right, right, right).load(), 4);
    }

    private static ClassBytes classOf(int[]... codes) {
        ClassBytes file = new ClassBytes();
        for (int m = 0; m < codes.length; m++) {
            file.method((char) ('a' + m), 0, 0, 1, codes[m]);
        }
        return file;
    }
}
