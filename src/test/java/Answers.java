import java.util.ArrayList;
import java.util.List;
import java.util.function.Consumer;
import java.util.function.ToIntFunction;

/**
 * All that objects answer after some calls. Two rows are alike where no later call tells the objects apart: what the
 * looks do not show (the bytes, the chain) is shown by calls that use it. Each part of a row is asked of a new object,
 * for an object is used for 512 calls at most.
 */
final class Answers {
    private static final int LOOKS_AT_ONCE = 250;
    private static final List<ToIntFunction<AdviceWeaver>> LOOKS = looks();
    private static final List<ToIntFunction<AdviceWeaver>> USES = uses();

    private Answers() {
    }

    static List<Integer> after(Consumer<AdviceWeaver> calls) {
        List<Integer> row = new ArrayList<>();
        for (ToIntFunction<AdviceWeaver> use : USES) {
            addLooks(row, calls, use);
        }
        return row;
    }

    /** What the looks alone show: not the bytes, and not the chain. */
    static List<Integer> shownAfter(Consumer<AdviceWeaver> calls) {
        List<Integer> row = new ArrayList<>();
        addLooks(row, calls, x -> 0);
        return row;
    }

    private static void addLooks(List<Integer> row, Consumer<AdviceWeaver> calls, ToIntFunction<AdviceWeaver> use) {
        for (int from = 0; from < LOOKS.size(); from += LOOKS_AT_ONCE) {
            AdviceWeaver x = new AdviceWeaver();
            calls.accept(x);
            row.add(use.applyAsInt(x));
            for (int i = from; i < Math.min(LOOKS.size(), from + LOOKS_AT_ONCE); i++) {
                row.add(LOOKS.get(i).applyAsInt(x));
            }
        }
    }

    private static List<ToIntFunction<AdviceWeaver>> uses() {
        List<ToIntFunction<AdviceWeaver>> all = new ArrayList<>();
        all.add(x -> 0);
        all.add(AdviceWeaver::load);
        all.add(AdviceWeaver::weave);
        all.add(x -> 100 * x.transformer(true, 0, -1) + x.weave());
        all.add(x -> 100 * x.transformer(false, 0, -1) + x.transformer(false, 0, -1));
        all.add(x -> x.run(false, 0, 3, 2, 90));
        all.add(x -> x.run(true, 0, 3, 2, 90));
        all.add(x -> x.put(0xCA01, 2) ? x.load() : 99);
        all.add(Answers::roomForBytes);
        return all;
    }

    private static int roomForBytes(AdviceWeaver x) {
        int room = 0;
        for (int n = 4; n > 0; n--) {
            for (int i = 0; i < 60 && x.put(0, n); i++) {
                room += n;
            }
        }
        return room;
    }

    private static List<ToIntFunction<AdviceWeaver>> looks() {
        List<ToIntFunction<AdviceWeaver>> all = new ArrayList<>();
        all.add(AdviceWeaver::value);
        all.add(AdviceWeaver::used);
        all.add(AdviceWeaver::marks);
        for (int i = 0; i <= 101; i++) {
            int k = i;
            all.add(x -> x.mark(k));
        }
        for (int i = 0; i < 4; i++) {
            int m = i;
            for (int j = 0; j < 40; j++) {
                int p = j;
                all.add(x -> x.probe(m, p));
            }
            for (int j = 0; j < 3; j++) {
                int t = j;
                all.add(x -> x.failed(m, t) ? 1 : 0);
            }
            addLooksAt(all, false, m);
            addLooksAt(all, true, m);
        }
        return all;
    }

    private static void addLooksAt(List<ToIntFunction<AdviceWeaver>> all, boolean woven, int m) {
        for (int i = 0; i < 4; i++) {
            int what = i;
            all.add(x -> x.shape(woven, m, what));
            for (int j = 0; j < 5; j++) {
                int h = j;
                all.add(x -> x.handler(woven, m, h, what));
            }
        }
        for (int i = 0; i < (woven ? 120 : 40); i++) {
            int p = i;
            all.add(x -> x.code(woven, m, p));
            all.add(x -> x.depth(woven, m, p));
        }
    }
}
