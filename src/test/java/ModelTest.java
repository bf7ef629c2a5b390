import java.util.Arrays;

/**
 * Promises 1 to 18 over many made class files: the program's answers against those of Model, in walks of 512 calls,
 * for so many an object is used for. The seed is fixed.
 */
public final class ModelTest {
    private static final int OBJECTS = 30000;
    private static final int MOST_CALLS = 512;

    private static final Check check = new Check("ModelTest");
    private static final Generator made = new Generator(20261115);
    private static AdviceWeaver x;
    private static Model y;
    private static int calls;
    private static int classes;
    private static int sound;
    private static int failures;
    private static int wide;
    private static final int[] outcomes = new int[5];

    public static void main(String[] args) {
        for (int object = 0; object < OBJECTS; object++) {
            x = new AdviceWeaver();
            y = new Model();
            calls = 0;
            walk();
        }
        System.out.println("ModelTest: " + sound + " sound classes of " + classes + ", " + failures + " failures, "
            + wide + " widened, outcomes " + Arrays.toString(outcomes));
        check.is("there are enough sound classes", sound > classes / 4, true);
        check.is("there are failures", failures > 100, true);
        check.is("there are widened branches", wide > 100, true);
        for (int outcome = 0; outcome < outcomes.length; outcome++) {
            check.is("outcome " + (outcome - 1) + " was met", outcomes[outcome] > 100, true);
        }
        check.finish();
    }

    private static boolean mayCall() {
        calls++;
        return calls <= MOST_CALLS;
    }

    private static void same(String what, int got, int due) {
        check.is(what, got, due);
    }

    /** Class after class, and between them, most of the time, looks and runs. */
    private static void walk() {
        boolean first = true;
        while (calls < MOST_CALLS) {
            if (first || made.below(90) == 0) {
                newClass();
                first = false;
            }
            int dice = made.below(40);
            if (dice == 0) {
                changeChain();
                weave();
            } else if (dice == 1) {
                run();
            } else if (dice < 22) {
                look(made.below(4) != 0);
            } else if (dice < 38) {
                lookAtRun();
            } else if (mayCall()) {
                int m = made.below(6) - 1;
                int t = made.below(5) - 1;
                check.is("failed " + m + " " + t, x.failed(m, t), y.failed(m, t));
            }
        }
    }

    private static void newClass() {
        if (made.below(10) != 0 && mayCall()) {
            x.clear();
            y.clear();
        }
        int[] bytes = made.bytes();
        int at = 0;
        while (at < bytes.length && mayCall()) {
            int n = Math.min(bytes.length - at, made.below(4) == 0 ? 1 + made.below(4) : 4);
            int word = made.number();
            for (int i = 0; i < n; i++) {
                word = word << 8 | bytes[at + i];
            }
            check.is("put", x.put(word, n), y.put(word, n));
            at += n;
        }
        if (mayCall()) {
            int found = y.load();
            same("load", x.load(), found);
            classes++;
            sound += found > 0 ? 1 : 0;
        }
        run();
        changeChain();
        weave();
        run();
    }

    private static void weave() {
        if (mayCall()) {
            same("weave", x.weave(), y.weave());
            failures += y.failures.size();
        }
        for (int i = 0; i < 12 && !y.failures.isEmpty() && mayCall(); i++) {
            check.is("failed " + i / 3 + " " + i % 3, x.failed(i / 3, i % 3), y.failed(i / 3, i % 3));
        }
    }

    private static void changeChain() {
        if (made.below(2) == 0 && mayCall()) {
            x.unchain();
            y.unchain();
        }
        for (int t = made.below(2) == 0 ? 3 : made.below(4); t > 0 && mayCall(); t--) {
            boolean cover = made.below(2) == 0;
            int letter = made.below(4) == 0 ? 'a' + made.below(26) : made.below(20) == 0 ? made.below(130) : 0;
            int args = made.below(3) == 0 ? made.below(6) - 2 : -1;
            same("transformer", x.transformer(cover, letter, args), y.transformer(cover, letter, args));
        }
    }

    /** Most of the time of a method that there is. */
    private static int method() {
        return made.below(12) == 0 ? made.below(7) - 1 : made.below(Math.max(1, y.loaded.size()));
    }

    private static void run() {
        if (!mayCall()) {
            return;
        }
        boolean woven = made.below(3) != 0;
        int m = method();
        int a = made.number();
        int b = made.number();
        int fuel = made.below(3) == 0 ? 1 + made.below(20) : made.below(1003);
        int outcome = y.run(woven, m, a, b, fuel);
        same("run", x.run(woven, m, a, b, fuel), outcome);
        outcomes[outcome + 1]++;
        if (mayCall()) {
            same("value", x.value(), y.value);
        }
        if (mayCall()) {
            same("used", x.used(), y.used);
        }
        if (mayCall()) {
            same("marks", x.marks(), y.marks.size());
        }
    }

    private static void lookAtRun() {
        if (!mayCall()) {
            return;
        }
        if (made.below(2) == 0) {
            int k = made.below(made.below(2) == 0 ? 103 : y.marks.size() + 2) - 1;
            same("mark " + k, x.mark(k), y.mark(k));
        } else {
            int m = method();
            int p = made.below(made.below(4) == 0 ? 44 : 8) - 1;
            same("probe " + m + " " + p, x.probe(m, p), y.probe(m, p));
        }
    }

    private static void look(boolean woven) {
        if (!mayCall()) {
            return;
        }
        int m = method();
        int length = Math.max(1, y.shape(woven, m, 0));
        int p = made.below(length + 3) - 1;
        int what = made.below(6) - 1;
        switch (made.below(4)) {
            case 0 -> same("shape " + woven + m + what, x.shape(woven, m, what), y.shape(woven, m, what));
            case 1 -> {
                int h = made.below(8) - 1;
                same("handler " + woven + m + h + what, x.handler(woven, m, h, what), y.handler(woven, m, h, what));
            }
            case 2 -> {
                same("code " + woven + m + " " + p, x.code(woven, m, p), y.code(woven, m, p));
                boolean begins = y.depth(woven, m, p) >= 0;
                wide += woven && begins && y.code(true, m, p) >= 20 && y.code(true, m, p) <= 22 ? 1 : 0;
            }
            default -> same("depth " + woven + m + " " + p, x.depth(woven, m, p), y.depth(woven, m, p));
        }
    }
}
