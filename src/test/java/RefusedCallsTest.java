import java.util.List;
import java.util.function.Consumer;
import java.util.function.ToIntFunction;

/** Promises 2, 4, 5, 7 and 9: which calls are refused, on both sides of the bound, and that they change nothing. */
public final class RefusedCallsTest {
    private static final Check check = new Check("RefusedCallsTest");
    private static final int NONE = AdviceWeaver.NONE;
    private static final int MIN = Integer.MIN_VALUE;
    private static final int MAX = Integer.MAX_VALUE;

    public static void main(String[] args) {
        putOfWrongCounts();
        putAboveTheLimit();
        transformerOfWrongNumbers();
        fourthTransformer();
        weaveWithoutClass();
        runOfNoMethod();
        runOfWrongFuel();
        runOfWhatIsNotWoven();
        loadOfWrongFile();
        loadOfWrongMethod();
        check.finish();
    }

    private static void refused(String what, Consumer<AdviceWeaver> before, int due, ToIntFunction<AdviceWeaver> call) {
        AdviceWeaver x = new AdviceWeaver();
        before.accept(x);
        check.is(what, call.applyAsInt(x), due);
        List<Integer> without = Answers.after(before);
        List<Integer> with = Answers.after(before.andThen(call::applyAsInt));
        check.is(what + " changes nothing", with.equals(without), true);
    }

    private static void taken(String what, Consumer<AdviceWeaver> before, int due, ToIntFunction<AdviceWeaver> call) {
        AdviceWeaver x = new AdviceWeaver();
        before.accept(x);
        check.is(what, call.applyAsInt(x), due);
        List<Integer> without = Answers.after(before);
        List<Integer> with = Answers.after(before.andThen(call::applyAsInt));
        check.is(what + " changes something", with.equals(without), false);
    }

    private static int put(AdviceWeaver x, int word, int n) {
        return x.put(word, n) ? 1 : 0;
    }

    private static void putOfWrongCounts() {
        for (Consumer<AdviceWeaver> state : States.ALL) {
            for (int n : new int[] {MIN, -4, -1, 0, 5, 6, 8, 260, MAX}) {
                refused("put of " + n, state, 0, x -> put(x, 0xCA01CA01, n));
            }
        }
        for (int n = 1; n <= 4; n++) {
            int count = n;
            taken("put of " + n, States.NEW, 1, x -> put(x, 0xCA01CA01, count));
        }
    }

    private static Consumer<AdviceWeaver> bytes(int count) {
        return x -> {
            for (int i = 0; i < count / 4; i++) {
                x.put(0xCA01CA01, 4);
            }
            for (int i = 0; i < count % 4; i++) {
                x.put(0xCA, 1);
            }
        };
    }

    private static void putAboveTheLimit() {
        for (int there = 235; there <= 240; there++) {
            for (int n = 1; n <= 4; n++) {
                int count = n;
                String what = "put of " + n + " to " + there;
                if (there + n <= 240) {
                    taken(what, bytes(there), 1, x -> put(x, 0x01020304, count));
                } else {
                    refused(what, bytes(there), 0, x -> put(x, 0x01020304, count));
                }
            }
        }
        refused("put to a full object with a chain", States.FULL, 0, x -> put(x, 0, 1));
        AdviceWeaver x = new AdviceWeaver();
        bytes(238).accept(x);
        check.is("four are too many", x.put(0, 4), false);
        check.is("three are too many", x.put(0, 3), false);
        check.is("two are not", x.put(0, 2), true);
        check.is("one is too many now", x.put(0, 1), false);
    }

    private static void transformerOfWrongNumbers() {
        int[] letters = {MIN, -97, -1, 1, 2, 95, 96, 123, 124, 128, 97 + 256, 256, MAX};
        int[] numbers = {MIN, -3, -2, 3, 4, 255, MAX};
        for (Consumer<AdviceWeaver> state : States.ALL) {
            for (int letter : letters) {
                refused("letter " + letter, state, NONE, x -> x.transformer(true, letter, -1));
            }
            for (int args : numbers) {
                refused("args " + args, state, NONE, x -> x.transformer(false, 0, args));
            }
            refused("both wrong", state, NONE, x -> x.transformer(true, 96, 3));
        }
        for (int letter : new int[] {0, 97, 98, 121, 122}) {
            taken("letter " + letter, States.NEW, 0, x -> x.transformer(true, letter, -1));
        }
        for (int i = -1; i <= 2; i++) {
            int args = i;
            taken("args " + args, States.NEW, 0, x -> x.transformer(true, 0, args));
        }
    }

    private static void fourthTransformer() {
        for (int there = 0; there < 5; there++) {
            int count = there;
            Consumer<AdviceWeaver> before = States.LOADED.andThen(x -> {
                x.unchain();
                for (int t = 0; t < count; t++) {
                    x.transformer(false, 'g', 0);
                }
            });
            if (there < 3) {
                taken("one more than " + there, before, there, x -> x.transformer(true, 0, -1));
            } else {
                refused("one more than " + there, before, NONE, x -> x.transformer(true, 0, -1));
            }
        }
        refused("a fourth without a class", States.FULL, NONE, x -> x.transformer(true, 0, -1));
    }

    private static void weaveWithoutClass() {
        for (Consumer<AdviceWeaver> state : States.WITHOUT_CLASS) {
            refused("weave without a class", state, NONE, AdviceWeaver::weave);
        }
        Consumer<AdviceWeaver> wrongClass = x -> ClassBytes.loadInto(x, 202, 1, 'm', 0, 0, 1, 1, 14, 0);
        refused("weave after a wrong class", wrongClass, NONE, AdviceWeaver::weave);
        taken("weave with a class", States.LOADED, 3, AdviceWeaver::weave);
    }

    private static void runOfNoMethod() {
        for (Consumer<AdviceWeaver> state : States.ALL) {
            for (int m : new int[] {MIN, -1, 4, 5, MAX}) {
                refused("run of method " + m, state, NONE, x -> x.run(false, m, 1, 2, 50));
                refused("run of woven method " + m, state, NONE, x -> x.run(true, m, 1, 2, 50));
            }
        }
        for (Consumer<AdviceWeaver> state : States.WITHOUT_CLASS) {
            refused("run without a class", state, NONE, x -> x.run(false, 0, 1, 2, 50));
            refused("run as woven without a class", state, NONE, x -> x.run(true, 0, 1, 2, 50));
        }
        Consumer<AdviceWeaver> small = x -> States.SMALL.loadInto(x);
        taken("run of the only method", small, 0, x -> x.run(false, 0, 1, 2, 50));
        refused("run of method 1 of one", small, NONE, x -> x.run(false, 1, 1, 2, 50));
        Consumer<AdviceWeaver> smaller = States.WOVEN.andThen(x -> States.SMALL.loadInto(x));
        refused("run of method 1 that is there no more", smaller, NONE, x -> x.run(false, 1, 1, 2, 50));
        for (int m = 0; m < 4; m++) {
            int method = m;
            taken("run of method " + m, States.WOVEN, 0, x -> x.run(false, method, 7, 2, 99));
        }
    }

    private static void runOfWrongFuel() {
        for (Consumer<AdviceWeaver> state : States.WITH_CLASS) {
            for (int fuel : new int[] {MIN, -1, 0, 1001, 1002, 65537, MAX}) {
                refused("fuel " + fuel, state, NONE, x -> x.run(false, 0, 1, 2, fuel));
                refused("fuel " + fuel + ", woven", state, NONE, x -> x.run(true, 0, 1, 2, fuel));
            }
            taken("fuel 1", state, 2, x -> x.run(false, 0, 1, 2, 1));
            taken("fuel 1000", state, 0, x -> x.run(false, 0, 1, 2, 1000));
        }
    }

    private static void runOfWhatIsNotWoven() {
        Consumer<AdviceWeaver> loadedAgain = States.WOVEN.andThen(x -> x.load());
        for (int m = 0; m < 4; m++) {
            int method = m;
            refused("run as woven before weaving", States.LOADED, NONE, x -> x.run(true, method, 1, 2, 50));
            refused("run as woven after another load", loadedAgain, NONE, x -> x.run(true, method, 1, 2, 50));
            taken("run as woven", States.WOVEN, 0, x -> x.run(true, method, 1, 2, 50));
        }
    }

    private static Consumer<AdviceWeaver> with(Consumer<AdviceWeaver> state, int... bytes) {
        return state.andThen(x -> ClassBytes.putInto(x, bytes));
    }

    private static void loadOfWrongFile() {
        int[] right = States.SMALL.bytes();
        for (Consumer<AdviceWeaver> state : States.ALL) {
            refused("load without bytes", with(state), -1, AdviceWeaver::load);
            for (int n = 1; n < right.length; n += 3) {
                refused("load of " + n + " bytes", with(state, java.util.Arrays.copyOf(right, n)), -1 - n,
                    AdviceWeaver::load);
            }
            int[] behind = java.util.Arrays.copyOf(right, right.length + 1);
            refused("load with one behind", with(state, behind), -1 - right.length, AdviceWeaver::load);
            for (int place : new int[] {0, 1, 2, 3, 4, 5, 6, right.length - 1}) {
                int[] wrong = right.clone();
                wrong[place] = 255;
                refused("load with an error at " + place, with(state, wrong), -1 - place, AdviceWeaver::load);
            }
            int[] alike = new ClassBytes().method('s', 0, 0, 1, 1, 5, 14).method('s', 0, 0, 1, 1, 5, 14).bytes();
            refused("load with two NAMEs alike", with(state, alike), -12, AdviceWeaver::load);
            taken("load of what is right", with(state, right), 1, AdviceWeaver::load);
        }
    }

    private static void loadOfWrongMethod() {
        int[][] wrong = {{33}, {30, 0}, {1, 5, 10, 1, 14}, {2, 1, 14}, {13, 2, 14}, {14}, {1, 5, 1, 5, 14}, {2, 0, 14},
            {1, 5}, {1, 5, 10, -2}};
        for (Consumer<AdviceWeaver> state : States.ALL) {
            for (int[] code : wrong) {
                ClassBytes first = new ClassBytes().method('a', 0, 1, 1, code).method('b', 0, 0, 1, 1, 5, 14);
                refused("load with method 0 wrong", with(state, first.bytes()), -1000, AdviceWeaver::load);
                ClassBytes second = new ClassBytes().method('b', 0, 0, 1, 1, 5, 14).method('a', 0, 1, 1, code);
                refused("load with method 1 wrong", with(state, second.bytes()), -1001, AdviceWeaver::load);
            }
            ClassBytes handler = new ClassBytes().method('a', 0, 0, 1, 1, 5, 14).handler(1, 3, 2, 0);
            refused("load with a handler wrong", with(state, handler.bytes()), -1000, AdviceWeaver::load);
        }
    }
}
