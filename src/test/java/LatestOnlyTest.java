import java.util.List;
import java.util.function.Consumer;

/** Promises 3, 4, 6, 7 and 9: calls after which nothing is left of what was before, and what they leave alone. */
public final class LatestOnlyTest {
    private static final Check check = new Check("LatestOnlyTest");

    public static void main(String[] args) {
        clearTakesBytesAlone();
        clearWhenEmptyAndWhenFull();
        unchainTakesChainAlone();
        unchainWhenEmptyAndWhenFull();
        loadTakesThePlaceOfTheClassBefore();
        loadLeavesBytesAndChain();
        weaveTakesThePlaceOfTheWeavingBefore();
        runTakesThePlaceOfTheRunBefore();
        loadAndWeaveLeaveTheRun();
        looksChangeNothing();
        check.finish();
    }

    private static void same(String what, Consumer<AdviceWeaver> one, Consumer<AdviceWeaver> other) {
        check.is(what, Answers.after(one).equals(Answers.after(other)), true);
    }

    private static void sameShown(String what, Consumer<AdviceWeaver> one, Consumer<AdviceWeaver> other) {
        check.is(what, Answers.shownAfter(one).equals(Answers.shownAfter(other)), true);
    }

    private static void clearTakesBytesAlone() {
        for (Consumer<AdviceWeaver> state : States.ALL) {
            sameShown("clear leaves class, weaving and run", state, state.andThen(AdviceWeaver::clear));
            AdviceWeaver x = new AdviceWeaver();
            state.accept(x);
            x.clear();
            check.is("no bytes", x.load(), -1);
            same("what is put then stands alone", state.andThen(y -> States.SMALL.loadInto(y)),
                state.andThen(AdviceWeaver::clear).andThen(y -> States.SMALL.loadInto(y)));
            same("clear twice is clear once", state.andThen(AdviceWeaver::clear),
                state.andThen(AdviceWeaver::clear).andThen(AdviceWeaver::clear));
        }
        same("clear takes all bytes", States.NEW, States.SOME_BYTES.andThen(AdviceWeaver::clear));
    }

    private static void clearWhenEmptyAndWhenFull() {
        same("clear of a new object", States.NEW, AdviceWeaver::clear);
        AdviceWeaver x = new AdviceWeaver();
        for (int again = 0; again < 3; again++) {
            for (int i = 0; i < 60; i++) {
                check.is("240 bytes", x.put(0, 4), true);
            }
            check.is("no more", x.put(202, 1), false);
            x.clear();
            check.is("none", x.load(), -1);
        }
        check.is("one", x.put(202, 1), true);
        check.is("at 0", x.load(), -2);
        same("clear of a full one", States.NEW, y -> {
            for (int i = 0; i < 60; i++) {
                y.put(-1, 4);
            }
            y.clear();
        });
    }

    private static void unchainTakesChainAlone() {
        for (Consumer<AdviceWeaver> state : States.ALL) {
            sameShown("unchain leaves class, weaving and run", state, state.andThen(AdviceWeaver::unchain));
            AdviceWeaver x = new AdviceWeaver();
            state.accept(x);
            x.unchain();
            check.is("the first one's number", x.transformer(true, 0, -1), 0);
            same("unchain twice is unchain once", state.andThen(AdviceWeaver::unchain),
                state.andThen(AdviceWeaver::unchain).andThen(AdviceWeaver::unchain));
        }
        same("unchain leaves the bytes", States.SOME_BYTES, States.SOME_BYTES.andThen(y -> {
            y.transformer(false, 0, -1);
            y.unchain();
        }));
    }

    private static void unchainWhenEmptyAndWhenFull() {
        same("unchain of a new object", States.NEW, AdviceWeaver::unchain);
        AdviceWeaver x = new AdviceWeaver();
        for (int again = 0; again < 3; again++) {
            for (int t = 0; t < 3; t++) {
                check.is("transformer " + t, x.transformer(true, 0, -1), t);
            }
            check.is("a fourth", x.transformer(true, 0, -1), -1);
            x.unchain();
        }
        check.is("the first again", x.transformer(true, 0, -1), 0);
        same("unchain of a full one", States.NEW, y -> {
            for (int t = 0; t < 3; t++) {
                y.transformer(false, 0, -1);
            }
            y.unchain();
        });
    }

    private static Consumer<AdviceWeaver> load(ClassBytes file) {
        return x -> file.loadInto(x);
    }

    private static Consumer<AdviceWeaver> transformers(boolean... covers) {
        return x -> {
            x.unchain();
            for (boolean cover : covers) {
                x.transformer(cover, 0, -1);
            }
        };
    }

    private static void loadTakesThePlaceOfTheClassBefore() {
        Consumer<AdviceWeaver> chain = transformers(false, true, false);
        Consumer<AdviceWeaver> large = chain.andThen(load(States.LARGE));
        Consumer<AdviceWeaver> small = chain.andThen(load(States.SMALL));
        same("a small class after a large one", small, large.andThen(load(States.SMALL)));
        same("a large class after a small one", large, small.andThen(load(States.LARGE)));
        same("a small class after a large one that was woven", small,
            large.andThen(AdviceWeaver::weave).andThen(load(States.SMALL)));
        same("a large class after a small one that was woven", large,
            small.andThen(AdviceWeaver::weave).andThen(load(States.LARGE)));
        same("the same class again", large, large.andThen(AdviceWeaver::weave).andThen(AdviceWeaver::load));
        AdviceWeaver x = new AdviceWeaver();
        large.andThen(AdviceWeaver::weave).accept(x);
        check.is("a failure", x.failed(2, 0), true);
        check.is("the same class again", x.load(), 4);
        check.is("is not woven, so nothing failed", x.failed(2, 0), false);
        check.is("and nothing is there as woven", x.shape(true, 0, 0), -1);
    }

    private static void loadLeavesBytesAndChain() {
        AdviceWeaver x = new AdviceWeaver();
        x.transformer(false, 0, -1);
        check.is("load", States.LARGE.loadInto(x), 4);
        check.is("load again", x.load(), 4);
        check.is("one byte more", x.put(0, 1), true);
        check.is("is behind those that stay", x.load(), -1 - States.LARGE.bytes().length);
        check.is("the chain stays", x.transformer(true, 0, -1), 1);
    }

    private static void weaveTakesThePlaceOfTheWeavingBefore() {
        boolean[][] chains = {{}, {false}, {true}, {false, true}, {true, false, false}, {false, false, false}};
        for (boolean[] before : chains) {
            for (boolean[] after : chains) {
                Consumer<AdviceWeaver> once = load(States.LARGE).andThen(transformers(after))
                    .andThen(AdviceWeaver::weave);
                Consumer<AdviceWeaver> twice = load(States.LARGE).andThen(transformers(before))
                    .andThen(AdviceWeaver::weave).andThen(transformers(after)).andThen(AdviceWeaver::weave);
                same("of two weavings the second counts", once, twice);
            }
        }
    }

    private static void runTakesThePlaceOfTheRunBefore() {
        List<Consumer<AdviceWeaver>> runs = List.of(
            x -> x.run(false, 0, 3, 0, 100), x -> x.run(true, 0, 30, 0, 900), x -> x.run(true, 0, 30, 0, 100),
            x -> x.run(true, 3, 8, 0, 100), x -> x.run(false, 3, 8, 2, 1), x -> x.run(true, 1, 0, 0, 100));
        Consumer<AdviceWeaver> woven = load(States.LARGE).andThen(transformers(false, true))
            .andThen(AdviceWeaver::weave);
        for (Consumer<AdviceWeaver> first : runs) {
            for (Consumer<AdviceWeaver> second : runs) {
                same("of two runs the second counts", woven.andThen(second), woven.andThen(first).andThen(second));
            }
        }
    }

    private static void loadAndWeaveLeaveTheRun() {
        AdviceWeaver x = new AdviceWeaver();
        States.WOVEN.accept(x);
        for (int step = 0; step < 4; step++) {
            check.is("value", x.value(), 5);
            check.is("used", x.used(), 20 * 8 + 4);
            check.is("marks", x.marks(), 2 * 21);
            check.is("mark 0", x.mark(0), 0);
            check.is("mark 41", x.mark(41), 1);
            check.is("probe", x.probe(1, 0), 20);
            if (step == 0) {
                x.weave();
            } else if (step == 1) {
                States.SMALL.loadInto(x);
            } else {
                x.unchain();
                x.weave();
            }
        }
    }

    private static void looksChangeNothing() {
        for (Consumer<AdviceWeaver> state : States.ALL) {
            same("looks", state, state.andThen(x -> {
                x.value();
                x.used();
                x.marks();
                x.mark(0);
                x.probe(0, 0);
                x.failed(0, 0);
                x.shape(true, 0, 0);
                x.code(false, 0, 0);
                x.handler(true, 0, 0, 0);
                x.depth(false, 0, 0);
            }));
        }
    }
}
