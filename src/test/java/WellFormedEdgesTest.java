import java.util.Set;

/** WELL FORMED: where branches and handlers may lead, place by place. */
public final class WellFormedEdgesTest {
    private static final Check check = new Check("WellFormedEdgesTest");
    private static final int ILL_FORMED = -1000;
    /** GOTO to itself; NOTHING; GROW; wide GOTO to itself; RETURN; THROW: nothing behind the first is reached by it. */
    private static final int[] CODE = {10, 0, 0, 16, 0, 1, 20, 0, 0, 14, 15};
    private static final Set<Integer> BEGINNINGS = Set.of(0, 2, 3, 6, 9, 10);

    public static void main(String[] args) {
        shortBranches();
        wideBranches();
        reachedBranches();
        startEndAndAt();
        endAboveStart();
        endThatIsTheLength();
        eachHandler();
        eachMethod();
        check.finish();
    }

    private static void one(String what, boolean right, int... code) {
        check.is(what, new ClassBytes().method('m', 1, 1, 1, code).load(), right ? 1 : ILL_FORMED);
    }

    private static int[] withBehind(int... behind) {
        int[] code = java.util.Arrays.copyOf(CODE, CODE.length + behind.length);
        System.arraycopy(behind, 0, code, CODE.length, behind.length);
        return code;
    }

    private static void shortBranches() {
        for (int op = 10; op <= 12; op++) {
            for (int to = -3; to <= 15; to++) {
                boolean right = BEGINNINGS.contains(to) || to == 11;
                one(op + " to " + to, right, withBehind(op, to - 11));
                boolean rightWithOneBehind = right || to == 13;
                one(op + " to " + to + " with one behind", rightWithOneBehind, withBehind(op, to - 11, 0));
            }
        }
    }

    private static void wideBranches() {
        for (int op = 20; op <= 22; op++) {
            for (int to = -3; to <= 16; to++) {
                int way = to - 11;
                boolean right = BEGINNINGS.contains(to) || to == 11;
                one(op + " to " + to, right, withBehind(op, way >> 8, way));
                boolean rightWithOneBehind = right || to == 14;
                one(op + " to " + to + " with one behind", rightWithOneBehind, withBehind(op, way >> 8, way, 0));
            }
        }
    }

    private static void reachedBranches() {
        for (int to = -2; to <= 11; to++) {
            boolean right = Set.of(0, 2, 4, 7, 9).contains(to);
            one("GOTO to " + to, right, 10, to, 10, 0, 16, 0, 1, 10, 0, 10, 0);
        }
        one("IF to the last instruction", true, 1, 5, 11, 4, 10, 0, 10, 0);
        one("IF to the length", false, 1, 5, 11, 6, 10, 0, 10, 0);
        one("IF to the first instruction", true, 1, 5, 12, -2, 10, 0);
        one("IF to before the first instruction", false, 1, 5, 12, -3, 10, 0);
    }

    /** With START 0 the first GOTO is in the handler; then AT 0 would be reached with two depths. */
    private static void startEndAndAt() {
        for (int start = 0; start <= 13; start++) {
            for (int end = 0; end <= 13; end++) {
                for (int at = 0; at <= 13; at++) {
                    boolean wellFormed = BEGINNINGS.contains(start) && BEGINNINGS.contains(at) && end > start
                        && (BEGINNINGS.contains(end) || end == 11);
                    boolean sound = start != 0 || at != 0;
                    handled("START " + start + ", END " + end + ", AT " + at, wellFormed && sound, start, end, at);
                }
            }
        }
        handled("START 255", false, 255, 11, 9);
        handled("END 255", false, 2, 255, 9);
        handled("AT 255", false, 2, 11, 255);
    }

    private static void handled(String what, boolean right, int start, int end, int at) {
        ClassBytes file = new ClassBytes().method('m', 1, 1, 1, CODE).handler(start, end, at, 0);
        check.is(what, file.load(), right ? 1 : ILL_FORMED);
    }

    private static void endAboveStart() {
        handled("END the next instruction", true, 9, 10, 9);
        handled("END at START", false, 9, 9, 9);
        handled("END below START", false, 9, 6, 9);
        handled("END at START 0", false, 0, 0, 9);
    }

    private static void endThatIsTheLength() {
        handled("END the last instruction", true, 9, 10, 9);
        handled("END the LENGTH", true, 9, 11, 9);
        handled("END the LENGTH, START the last instruction", true, 10, 11, 9);
        handled("END behind the LENGTH", false, 9, 12, 9);
        handled("START the LENGTH", false, 11, 12, 9);
        handled("AT the LENGTH", false, 9, 11, 11);
        handled("AT the last instruction", true, 9, 11, 10);
    }

    private static void eachHandler() {
        int[][] wrong = {{1, 11, 9}, {11, 12, 9}, {9, 9, 9}, {9, 6, 9}, {2, 4, 9}, {9, 12, 9}, {9, 11, 7}, {9, 11, 11}};
        for (int bad = 0; bad < 3; bad++) {
            for (int[] parts : wrong) {
                ClassBytes file = new ClassBytes().method('m', 1, 1, 1, CODE);
                for (int h = 0; h < 3; h++) {
                    if (h == bad) {
                        file.handler(parts[0], parts[1], parts[2], 0);
                    } else {
                        file.handler(2, 11, 9, 0);
                    }
                }
                check.is("handler " + bad + " is wrong", file.load(), ILL_FORMED);
            }
        }
        ClassBytes right = new ClassBytes().method('m', 1, 1, 1, CODE);
        check.is("three that are right", right.handler(2, 11, 9, 0).handler(2, 11, 9, 0).handler(0, 11, 9, 0).load(), 1);
    }

    private static void eachMethod() {
        for (int bad = 0; bad < 4; bad++) {
            ClassBytes file = new ClassBytes();
            for (int m = 0; m < 4; m++) {
                file.method((char) ('a' + m), 0, 0, 1, 1, 5, m >= bad ? 17 : 14);
            }
            check.is("the first that is wrong is " + bad, file.load(), ILL_FORMED - bad);
        }
    }
}
