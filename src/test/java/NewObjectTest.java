import java.util.function.ToIntFunction;

/** Promise 1: no bytes, no class, no transformers, as each later call shows it; each is asked of a new object. */
public final class NewObjectTest {
    private static final Check check = new Check("NewObjectTest");
    private static final int NONE = AdviceWeaver.NONE;
    private static final int[] NUMBERS = {Integer.MIN_VALUE, -2, -1, 0, 1, 2, 3, 4, 5, 39, 40, 99, 100, 119, 120,
        Integer.MAX_VALUE};

    public static void main(String[] args) {
        noBytes();
        noClass();
        noTransformers();
        noRun();
        nothingToLookAt();
        emptyingChangesNothing();
        objectsOfTheirOwn();
        lastCalls();
        check.finish();
    }

    private static void first(String what, int due, ToIntFunction<AdviceWeaver> call) {
        check.is(what, call.applyAsInt(new AdviceWeaver()), due);
    }

    private static void noBytes() {
        first("load", -1, AdviceWeaver::load);
        AdviceWeaver x = new AdviceWeaver();
        for (int i = 0; i < 60; i++) {
            check.is("there is room for 240 bytes", x.put(0, 4), true);
        }
        check.is("and for none more", x.put(0, 1), false);
        x = new AdviceWeaver();
        x.put(202, 1);
        check.is("the first byte is at 0", x.load(), -2);
    }

    private static void noClass() {
        first("weave", NONE, AdviceWeaver::weave);
        for (int m : NUMBERS) {
            for (int fuel : new int[] {0, 1, 1000, 1001}) {
                first("run as loaded", NONE, x -> x.run(false, m, 1, 2, fuel));
                first("run as woven", NONE, x -> x.run(true, m, 1, 2, fuel));
            }
        }
        AdviceWeaver x = new AdviceWeaver();
        x.transformer(true, 0, -1);
        check.is("weave with a transformer", x.weave(), NONE);
        check.is("is not woven", x.run(true, 0, 0, 0, 9), NONE);
    }

    private static void noTransformers() {
        for (int args = -1; args <= 2; args++) {
            int number = args;
            first("the first transformer", 0, x -> x.transformer(true, 0, number));
        }
        AdviceWeaver x = new AdviceWeaver();
        check.is("there is room for three", x.transformer(false, 'a', 0), 0);
        check.is("two", x.transformer(true, 'z', 2), 1);
        check.is("three", x.transformer(true, 0, -1), 2);
        check.is("not four", x.transformer(true, 0, -1), NONE);
        x = new AdviceWeaver();
        check.is("a class", new ClassBytes().method('a', 0, 0, 1, 1, 5, 14).loadInto(x), 1);
        check.is("none is applied", x.weave(), 0);
        check.code("so it stays", x, true, 0, 1, 5, 14);
    }

    private static void noRun() {
        first("value", 0, AdviceWeaver::value);
        first("used", 0, AdviceWeaver::used);
        first("marks", 0, AdviceWeaver::marks);
        for (int k : NUMBERS) {
            first("mark " + k, NONE, x -> x.mark(k));
            for (int p : NUMBERS) {
                first("probe " + k + " " + p, 0, x -> x.probe(k, p));
                first("failed " + k + " " + p, 0, x -> x.failed(k, p) ? 1 : 0);
            }
        }
    }

    private static void nothingToLookAt() {
        for (int m : NUMBERS) {
            for (int p : NUMBERS) {
                first("shape", NONE, x -> x.shape(false, m, p));
                first("shape, woven", NONE, x -> x.shape(true, m, p));
                first("code", NONE, x -> x.code(false, m, p));
                first("code, woven", NONE, x -> x.code(true, m, p));
                first("depth", NONE, x -> x.depth(false, m, p));
                first("depth, woven", NONE, x -> x.depth(true, m, p));
                for (int what = -1; what <= 4; what++) {
                    int part = what;
                    first("handler", NONE, x -> x.handler(false, m, p, part));
                    first("handler, woven", NONE, x -> x.handler(true, m, p, part));
                }
            }
        }
    }

    private static void emptyingChangesNothing() {
        check.is("clear", Answers.after(AdviceWeaver::clear).equals(Answers.after(x -> { })), true);
        check.is("unchain", Answers.after(AdviceWeaver::unchain).equals(Answers.after(x -> { })), true);
    }

    private static void objectsOfTheirOwn() {
        AdviceWeaver x = new AdviceWeaver();
        AdviceWeaver y = new AdviceWeaver();
        new ClassBytes().method('a', 0, 0, 1, 1, 5, 14).loadInto(x);
        x.transformer(false, 0, -1);
        x.weave();
        x.run(true, 0, 0, 0, 9);
        AdviceWeaver z = new AdviceWeaver();
        for (AdviceWeaver other : new AdviceWeaver[] {y, z}) {
            check.is("the other's bytes", other.load(), -1);
            check.is("the other's class", other.weave(), NONE);
            check.is("the other's chain", other.transformer(true, 0, -1), 0);
            check.is("the other's run", other.value() + other.used() + other.marks(), 0);
        }
        new ClassBytes().method('b', 0, 0, 1, 1, 6, 15).loadInto(y);
        y.run(false, 0, 0, 0, 9);
        check.is("the run", x.value(), 5);
        check.is("the class", x.code(false, 0, 1), 5);
        check.is("what was woven", x.shape(true, 0, 0), 10);
        check.is("the other's", y.value(), 6);
    }

    /** An object is used for at most 512 calls: the last of them is answered like the first. */
    private static void lastCalls() {
        AdviceWeaver x = new AdviceWeaver();
        int calls = 0;
        for (int b : new ClassBytes().method('a', 0, 0, 1, 1, 5, 14).bytes()) {
            x.put(b, 1);
            calls++;
        }
        for (; calls < 508; calls++) {
            check.is("load, again and again", x.load(), 1);
        }
        check.is("call 509", x.transformer(true, 0, -1), 0);
        check.is("call 510", x.weave(), 1);
        check.is("call 511", x.run(true, 0, 0, 0, 9), 0);
        check.is("call 512", x.probe(0, 0), 1);
    }
}
