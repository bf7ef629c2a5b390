/** Promises 1 to 18 over many made class files: the program's answers against those of Model. The seed is fixed. */
public final class ModelTest {
    private static final int OBJECTS = 2000;
    private static final int CLASSES = 6;

    private static final Check check = new Check("ModelTest");
    private static final Generator made = new Generator(20261115);
    private static AdviceWeaver x;
    private static Model y;
    private static int sound;
    private static int failures;
    private static int wide;
    private static final int[] outcomes = new int[5];

    public static void main(String[] args) {
        for (int object = 0; object < OBJECTS; object++) {
            x = new AdviceWeaver();
            y = new Model();
            for (int k = 0; k < CLASSES; k++) {
                oneClass();
            }
        }
        System.out.println("ModelTest: " + sound + " sound classes of " + OBJECTS * CLASSES + ", " + failures
            + " failures, " + wide + " widened, outcomes " + java.util.Arrays.toString(outcomes));
        check.is("there are enough sound classes", sound > OBJECTS * CLASSES / 4, true);
        check.is("there are failures", failures > 100, true);
        check.is("there are widened branches", wide > 100, true);
        for (int outcome = 0; outcome < outcomes.length; outcome++) {
            check.is("outcome " + (outcome - 1) + " was met", outcomes[outcome] > 100, true);
        }
        check.finish();
    }

    private static void oneClass() {
        if (made.below(10) != 0) {
            x.clear();
            y.clear();
        }
        putAll(made.bytes());
        int found = y.load();
        check.is("load", x.load(), found);
        sound += found > 0 ? 1 : 0;
        look(false);
        look(true);
        for (int k = 0; k < 2; k++) {
            runSome();
            changeChain();
            check.is("weave", x.weave(), y.weave());
            look(true);
            for (int m = -1; m <= 4; m++) {
                for (int t = -1; t <= 3; t++) {
                    check.is("failed " + m + " " + t, x.failed(m, t), y.failed(m, t));
                    failures += y.failed(m, t) ? 1 : 0;
                }
            }
            runSome();
        }
    }

    private static void putAll(int[] bytes) {
        int at = 0;
        while (at < bytes.length) {
            int n = Math.min(bytes.length - at, 1 + made.below(4));
            int word = made.number();
            for (int i = 0; i < n; i++) {
                word = word << 8 | bytes[at + i];
            }
            check.is("put", x.put(word, n), y.put(word, n));
            at += n;
        }
    }

    private static void changeChain() {
        if (made.below(2) == 0) {
            x.unchain();
            y.unchain();
        }
        for (int t = made.below(2) == 0 ? 3 : made.below(4); t > 0; t--) {
            boolean cover = made.below(2) == 0;
            int letter = made.below(4) == 0 ? 'a' + made.below(26) : made.below(20) == 0 ? made.below(130) : 0;
            int args = made.below(3) == 0 ? made.below(6) - 2 : -1;
            check.is("transformer", x.transformer(cover, letter, args), y.transformer(cover, letter, args));
        }
    }

    private static void look(boolean woven) {
        for (int m = -1; m <= 4; m++) {
            for (int what = -1; what <= 4; what++) {
                check.is("shape " + woven + m + what, x.shape(woven, m, what), y.shape(woven, m, what));
                for (int h = -1; h <= 5; h++) {
                    check.is("handler " + woven + m + h + what,
                        x.handler(woven, m, h, what), y.handler(woven, m, h, what));
                }
            }
            for (int p = -1; p <= 121; p++) {
                check.is("code " + woven + m + " " + p, x.code(woven, m, p), y.code(woven, m, p));
                check.is("depth " + woven + m + " " + p, x.depth(woven, m, p), y.depth(woven, m, p));
                boolean begins = y.depth(woven, m, p) >= 0;
                wide += woven && begins && y.code(true, m, p) >= 20 && y.code(true, m, p) <= 22 ? 1 : 0;
            }
        }
    }

    private static void runSome() {
        for (int k = 0; k < 4; k++) {
            boolean woven = made.below(3) != 0;
            int m = made.below(12) == 0 ? made.below(7) - 1 : made.below(Math.max(1, y.loaded.size()));
            int a = made.number();
            int b = made.number();
            int fuel = made.below(3) == 0 ? 1 + made.below(20) : made.below(1003);
            int outcome = y.run(woven, m, a, b, fuel);
            check.is("run", x.run(woven, m, a, b, fuel), outcome);
            outcomes[outcome + 1]++;
            check.is("value", x.value(), y.value);
            check.is("used", x.used(), y.used);
            check.is("marks", x.marks(), y.marks.size());
            for (int i = -1; i <= 101; i++) {
                check.is("mark " + i, x.mark(i), y.mark(i));
            }
            for (int i = -1; i <= 4; i++) {
                for (int p = -1; p <= 42; p++) {
                    check.is("probe " + i + " " + p, x.probe(i, p), y.probe(i, p));
                }
            }
        }
    }
}
