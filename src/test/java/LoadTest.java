/** Promise 4 (load): the first error of a class file, WELL FORMED, SOUND, and that an error changes nothing. */
public final class LoadTest {
    private static final Check check = new Check("LoadTest");
    private static final int ERROR = -1000;

    public static void main(String[] args) {
        everyMissingByte();
        everyByteAgainstItsBounds();
        namesAndBytesBehind();
        wellFormedCode();
        wellFormedBranches();
        wellFormedHandlers();
        soundDepths();
        soundLocals();
        soundHandlers();
        firstMethodThatIsWrong();
        errorChangesNothing();
        loadForgetsWhatWasWoven();
        check.finish();
    }

    private static ClassBytes two() {
        return new ClassBytes().method('b', 1, 2, 3, 1, 5, 14).handler(0, 3, 2, 9).method('c', 0, 0, 1, 1, 5, 14);
    }

    private static void everyMissingByte() {
        int[] bytes = two().bytes();
        for (int n = 0; n < bytes.length; n++) {
            int[] some = java.util.Arrays.copyOf(bytes, n);
            check.is("only " + n + " bytes", ClassBytes.loadInto(new AdviceWeaver(), some), -1 - n);
        }
        check.is("all bytes", two().load(), 2);
    }

    /** The byte is as said from low to high; behind it there may be errors, but not before. */
    private static void bounds(String what, int place, int low, int high) {
        for (int b = 0; b < 256; b++) {
            int[] bytes = two().bytes();
            bytes[place] = b;
            int answer = ClassBytes.loadInto(new AdviceWeaver(), bytes);
            check.is(what + " " + b + " is refused", answer == -1 - place, b < low || b > high);
        }
    }

    private static void everyByteAgainstItsBounds() {
        bounds("the first byte", 0, 202, 202);
        bounds("METHODS", 1, 1, 4);
        bounds("NAME", 2, 97, 122);
        bounds("ARGS", 3, 0, 2);
        bounds("LOCALS with ARGS 1", 4, 1, 6);
        bounds("STACK", 5, 1, 8);
        bounds("LENGTH", 6, 1, 40);
        for (int p = 7; p <= 9; p++) {
            bounds("CODE", p, 0, 255);
        }
        bounds("HANDLERS", 10, 0, 3);
        for (int p = 11; p <= 13; p++) {
            bounds("START, END, AT", p, 0, 255);
        }
        bounds("KIND", 14, 0, 9);
        bounds("LOCALS with ARGS 0", 17, 0, 6);
    }

    private static void namesAndBytesBehind() {
        int[] bytes = two().bytes();
        bytes[15] = 'b';
        check.is("a NAME twice", ClassBytes.loadInto(new AdviceWeaver(), bytes), -16);
        check.is("a NAME of the first as the third's", two().method('b', 0, 0, 1, 1, 5, 14).load(), -1 - 24);
        check.is("another NAME", two().method('a', 0, 0, 1, 1, 5, 14).load(), 3);
        int[] longer = java.util.Arrays.copyOf(two().bytes(), two().bytes().length + 2);
        check.is("bytes behind", ClassBytes.loadInto(new AdviceWeaver(), longer), -1 - two().bytes().length);
        ClassBytes four = two().method('x', 0, 0, 1, 1, 5, 14).method('y', 0, 0, 1, 1, 5, 14);
        check.is("four methods", four.load(), 4);
        check.is("five methods", four.method('z', 0, 0, 1, 1, 5, 14).load(), -2);
    }

    private static void one(String what, boolean right, int args, int locals, int stack, int... code) {
        int answer = new ClassBytes().method('m', args, locals, stack, code).load();
        check.is(what, answer, right ? 1 : ERROR);
    }

    private static void wellFormedCode() {
        for (int op = 0; op < 256; op++) {
            boolean noNumber = op == 0 || op >= 4 && op <= 9 || op == 14 || op == 15;
            boolean needsNumber = op >= 1 && op <= 3 || op >= 10 && op <= 13;
            boolean needsTwo = op == 16 || op >= 20 && op <= 22;
            one("unreachable instruction " + op + " alone", noNumber, 0, 1, 1, 1, 0, 14, op);
            if (!noNumber) {
                one("unreachable instruction " + op + " with a number", needsNumber, 0, 1, 1, 1, 0, 14, op, 0);
            }
            if (!noNumber && !needsNumber) {
                one("unreachable instruction " + op + " with two", needsTwo, 0, 1, 1, 1, 0, 14, op, 0, 0);
            }
        }
        for (int op : new int[] {2, 3}) {
            one(op + " of the last local", true, 0, 3, 1, 1, 0, 14, op, 2);
            one(op + " of no local", false, 0, 3, 1, 1, 0, 14, op, 3);
            one(op + " without locals", false, 0, 0, 1, 1, 0, 14, op, 0);
            one(op + " of local 255", false, 0, 6, 1, 1, 0, 14, op, 255);
        }
        one("GROW of the last local", true, 0, 3, 1, 1, 0, 14, 16, 2, -128);
        one("GROW of no local", false, 0, 3, 1, 1, 0, 14, 16, 3, 1);
        one("CALL of itself", true, 0, 0, 1, 1, 0, 14, 13, 0);
        one("CALL of no method", false, 0, 0, 1, 1, 0, 14, 13, 1);
        int answer = new ClassBytes().method('m', 0, 0, 1, 13, 1, 14).method('n', 0, 0, 1, 1, 0, 14).load();
        check.is("CALL of a later method", answer, 2);
        one("PUSH of any byte", true, 0, 0, 1, 1, 255, 14);
    }

    private static int[] nothings(int length, int... ahead) {
        int[] code = java.util.Arrays.copyOf(ahead, length);
        code[length - 3] = 1;
        code[length - 1] = 14;
        return code;
    }

    private static void wellFormedBranches() {
        for (int op : new int[] {10, 11, 12}) {
            one(op + " by 24", true, 1, 1, 2, nothings(40, 1, 1, op, 24));
            one(op + " by 25", false, 1, 1, 2, nothings(40, 1, 1, op, 25));
        }
        one("GOTO back by 24", true, 0, 0, 1, goBack(24));
        one("GOTO back by 25", false, 0, 0, 1, goBack(25));
        one("wide GOTO by 36", true, 0, 0, 1, nothings(39, 20, 0, 36));
        one("wide GOTO by 3, that a short one could lead", true, 0, 0, 1, nothings(39, 20, 0, 3));
        one("wide GOTO back", true, 0, 0, 1, 0, 20, 255, 255);
        one("wide GOTO by 256 + 3", false, 0, 0, 1, nothings(39, 20, 1, 3));
        one("branch into an instruction", false, 0, 0, 1, 10, 3, 1, 0, 14);
        one("unreachable branch into an instruction", false, 0, 0, 1, 1, 0, 14, 10, -2);
        one("branch to the end", false, 0, 0, 1, 1, 0, 14, 10, 2);
        one("branch before the beginning", false, 0, 0, 1, 1, 0, 14, 10, -4);
        one("branch to itself", true, 0, 0, 1, 10, 0);
        one("branch to the number of a wide one", false, 0, 0, 1, 1, 0, 14, 20, 0, 1);
    }

    private static int[] goBack(int by) {
        int[] code = new int[by + 2];
        code[by] = 10;
        code[by + 1] = -by;
        return code;
    }

    private static void handled(String what, boolean right, int start, int end, int at, int... code) {
        ClassBytes file = new ClassBytes().method('m', 0, 0, 1, code).handler(start, end, at, 0);
        check.is(what, file.load(), right ? 1 : ERROR);
    }

    private static void wellFormedHandlers() {
        int[] code = {1, 5, 14, 1, 6, 14, 14};
        handled("handler of all", true, 0, 7, 6, code);
        handled("handler of one", true, 2, 3, 6, code);
        handled("handler that END at an instruction", true, 0, 6, 2, code);
        handled("START inside an instruction", false, 1, 7, 6, code);
        handled("END inside an instruction", false, 0, 1, 6, code);
        handled("AT inside an instruction", false, 0, 7, 1, code);
        handled("START at the end", false, 7, 8, 6, code);
        handled("AT the end", false, 0, 7, 7, code);
        handled("END behind the end", false, 0, 8, 6, code);
        handled("END at START", false, 2, 2, 6, code);
        handled("END below START", false, 3, 2, 6, code);
        handled("handler of what is not reached", true, 3, 5, 4 + 1, code);
        int three = new ClassBytes().method('m', 0, 0, 1, code).handler(0, 7, 6, 0).handler(0, 7, 6, 0)
            .handler(0, 1, 6, 0).load();
        check.is("the third handler is looked at", three, ERROR);
    }

    private static void soundDepths() {
        one("RETURN of nothing", false, 0, 0, 1, 14);
        one("THROW of nothing", false, 0, 0, 1, 15);
        one("THROW", true, 0, 0, 1, 1, 5, 15);
        one("DROP of nothing", false, 0, 0, 1, 9, 1, 0, 14);
        one("STORE of nothing", false, 0, 1, 1, 3, 0, 1, 0, 14);
        one("DOUBLE of nothing", false, 0, 0, 2, 8, 14);
        one("DOUBLE", true, 0, 0, 2, 1, 0, 8, 14);
        one("DOUBLE above STACK", false, 0, 0, 1, 1, 0, 8, 14);
        one("PUSH above STACK", false, 0, 0, 1, 1, 0, 1, 0, 14);
        one("LOAD above STACK", false, 1, 1, 1, 2, 0, 2, 0, 14);
        one("PUSH to STACK", true, 0, 0, 8, 1, 0, 1, 0, 1, 0, 1, 0, 1, 0, 1, 0, 1, 0, 1, 0, 14);
        for (int op = 4; op <= 7; op++) {
            one(op + " of one", false, 0, 0, 2, 1, 0, op, 14);
            one(op + " of two", true, 0, 0, 2, 1, 0, 1, 0, op, 14);
            one(op + " leaves one", false, 0, 0, 2, 1, 0, 1, 0, op, op, 14);
        }
        one("IF ZERO of nothing", false, 0, 0, 1, 11, 2, 1, 0, 14);
        one("IF NEGATIVE of nothing", false, 0, 0, 1, 12, 2, 1, 0, 14);
        one("wide IF ZERO of nothing", false, 0, 0, 1, 21, 0, 3, 1, 0, 14);
        one("wide IF NEGATIVE of nothing", false, 0, 0, 1, 22, 0, 3, 1, 0, 14);
        one("CALL with too few arguments", false, 2, 2, 2, 1, 0, 13, 0, 14);
        one("CALL with its arguments", true, 2, 2, 2, 1, 0, 1, 0, 13, 0, 14);
        one("CALL of two leaves one", false, 2, 2, 2, 1, 0, 1, 0, 13, 0, 9, 14);
        one("CALL of none puts one", true, 0, 0, 1, 13, 0, 14);
        one("CALL of none above STACK", false, 0, 0, 1, 1, 0, 13, 0, 14);
        one("over the end", false, 0, 0, 1, 1, 0);
        one("IF over the end", false, 0, 0, 1, 1, 0, 11, -2);
        one("GOTO at the end", true, 0, 0, 1, 10, 0);
        one("wide GOTO at the end", true, 0, 0, 1, 20, 0, 0);
        one("two depths where ways meet", false, 1, 1, 2, 2, 0, 11, 4, 1, 7, 1, 8, 14);
        one("one depth where ways meet", true, 1, 1, 2, 2, 0, 11, 5, 1, 7, 9, 1, 8, 14);
        one("two depths in a loop", false, 0, 0, 8, 1, 7, 10, -2);
        one("two depths, not reached", true, 0, 0, 2, 1, 7, 14, 1, 7, 10, -2);
        one("anything that is not reached", true, 0, 1, 1, 1, 7, 14, 14, 4, 2, 0, 1, 1, 1, 1);
    }

    private static void soundLocals() {
        one("LOAD of an argument", true, 2, 2, 1, 2, 1, 14);
        one("LOAD of a local that is not set", false, 1, 2, 1, 2, 1, 14);
        one("LOAD of one that is set", true, 0, 1, 1, 1, 5, 3, 0, 2, 0, 14);
        one("GROW of a local that is not set", false, 1, 2, 1, 16, 1, 1, 2, 0, 14);
        one("GROW of one that is set", true, 1, 2, 1, 16, 0, 1, 2, 0, 14);
        one("GROW sets none", false, 1, 2, 1, 16, 1, 1, 2, 1, 14);
        one("set on one of two ways", false, 1, 2, 1, 2, 0, 11, 6, 1, 1, 3, 1, 2, 1, 14);
        one("set on two of two ways", true, 1, 2, 1, 2, 0, 11, 8, 1, 1, 3, 1, 10, 6, 1, 2, 3, 1, 2, 1, 14);
        one("not set on a way that comes back later", false, 1, 2, 1, 2, 0, 11, 9, 1, 1, 3, 1, 2, 1, 14, 10, -3);
        one("not set on a way that comes back twice", false, 1, 2, 1,
            2, 0, 11, 15, 1, 1, 3, 1, 2, 0, 11, 5, 2, 1, 14, 10, -3, 10, -2);
        one("set on a way that comes back later", true, 1, 2, 1, 1, 1, 3, 1, 2, 0, 11, 5, 2, 1, 14, 10, -3);
    }

    private static void soundHandlers() {
        handled("handler with depth 1", true, 0, 2, 2, 1, 5, 14);
        handled("handler reached with two depths", false, 0, 2, 0, 1, 5, 14);
        handled("even where nothing can be thrown", false, 0, 1, 1, 0, 1, 5, 14);
        handled("RETURN is in the handler too", false, 2, 3, 0, 1, 5, 14);
        handled("not at END", true, 0, 2, 3, 1, 5, 14, 14);
        handled("handler over itself", true, 0, 4, 3, 1, 5, 14, 15);
        ClassBytes before = new ClassBytes().method('m', 0, 1, 1, 1, 5, 3, 0, 1, 6, 14, 9, 2, 0, 14);
        check.is("a STORE in the handler is not yet done", before.handler(0, 4, 7, 0).load(), ERROR);
        ClassBytes behind = new ClassBytes().method('m', 0, 1, 1, 1, 5, 3, 0, 1, 6, 14, 9, 2, 0, 14);
        check.is("a STORE before START is done", behind.handler(4, 7, 7, 0).load(), 1);
    }

    private static void firstMethodThatIsWrong() {
        ClassBytes file = new ClassBytes().method('a', 0, 0, 1, 1, 5, 14).method('b', 0, 0, 1, 14)
            .method('c', 0, 0, 1, 99);
        check.is("unsound before ill formed", file.load(), -1001);
        file = new ClassBytes().method('a', 0, 0, 1, 1, 5, 14).method('b', 0, 0, 1, 1, 5, 14).method('c', 0, 0, 1, 99)
            .method('d', 0, 0, 1, 14);
        check.is("ill formed before unsound", file.load(), -1002);
        int[] bytes = new ClassBytes().method('a', 0, 0, 1, 14).method('A', 0, 0, 1, 14).bytes();
        check.is("errors of the file are first", ClassBytes.loadInto(new AdviceWeaver(), bytes), -10);
    }

    private static void errorChangesNothing() {
        AdviceWeaver x = new AdviceWeaver();
        two().loadInto(x);
        check.is("bytes stay", x.load(), 2);
        x.transformer(false, 0, -1);
        x.weave();
        x.run(true, 0, 3, 0, 10);
        check.is("a wrong class", new ClassBytes().method('z', 0, 0, 1, 14).loadInto(x), ERROR);
        check.is("a wrong file", ClassBytes.loadInto(x, 202, 1, 122, 2, 1), -5);
        check.code("the class before", x, false, 0, 1, 5, 14);
        check.handler("the class before", x, false, 0, 0, 0, 3, 2, 9);
        check.is("its second method", x.shape(false, 1, 0), 3);
        check.code("what was woven before", x, true, 0, 30, 0, 1, 5, 30, 1, 14, 30, 2, 32);
        check.is("the run before", x.value(), 5);
        check.is("weaving of the class before", x.weave(), 2);
        check.is("bytes stay after an error", x.load(), -5);
    }

    private static void loadForgetsWhatWasWoven() {
        AdviceWeaver x = new AdviceWeaver();
        two().loadInto(x);
        x.transformer(false, 0, -1);
        x.weave();
        check.is("a run", x.run(true, 0, 3, 0, 10), 0);
        check.is("another class", new ClassBytes().method('z', 0, 0, 1, 1, 9, 14).loadInto(x), 1);
        check.is("nothing is woven: run", x.run(true, 0, 3, 0, 10), -1);
        check.is("nothing is woven: shape", x.shape(true, 0, 0), -1);
        check.is("nothing is woven: code", x.code(true, 0, 0), -1);
        check.is("nothing is woven: handler", x.handler(true, 0, 0, 0), -1);
        check.is("nothing is woven: depth", x.depth(true, 0, 0), -1);
        check.is("the second method is gone", x.shape(false, 1, 0), -1);
        check.is("the latest run is still that of before", x.value(), 5);
        check.marks("the latest run", x, 0, 1);
        check.is("the chain stays", x.weave(), 1);
        check.is("the new class is woven", x.run(true, 0, 0, 0, 10), 0);
        check.is("and runs", x.value(), 9);
    }
}
