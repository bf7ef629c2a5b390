import java.lang.management.ManagementFactory;

/** All calls of a run live in one room: an object is small, and its calls make nothing more. */
public final class RoomTest {
    private static final Check check = new Check("RoomTest");
    private static final com.sun.management.ThreadMXBean THREADS =
        (com.sun.management.ThreadMXBean) ManagementFactory.getThreadMXBean();
    private static final int[] BYTES = new ClassBytes()
        .method('f', 1, 1, 1, 2, 0, 11, 10, 13, 1, 9, 16, 0, -1, 10, -10, 1, 5, 14).handler(0, 16, 18, 0)
        .method('g', 0, 0, 1, 1, 6, 14).bytes();
    private static int kept = 0;

    public static void main(String[] args) {
        AdviceWeaver[] objects = new AdviceWeaver[25];
        for (int i = 0; i < objects.length; i++) {
            objects[i] = new AdviceWeaver();
        }
        everyCall(objects[0]);
        long before = made();
        for (AdviceWeaver x : objects) {
            for (int again = 0; again < 6; again++) {
                everyCall(x);
            }
        }
        check.is("no call makes an object", made() - before < 2000, true);
        before = made();
        for (int again = 0; again < 100; again++) {
            kept += new AdviceWeaver().load();
        }
        check.is("an object has less than 32 KiB", made() - before < 100 * 32 * 1024, true);
        check.is("the calls were made", kept != 0, true);
        check.finish();
    }

    private static long made() {
        return THREADS.getThreadAllocatedBytes(Thread.currentThread().getId());
    }

    private static void everyCall(AdviceWeaver x) {
        x.clear();
        for (int i = 0; i < BYTES.length; i++) {
            x.put(BYTES[i], 1);
        }
        kept += x.load();
        x.unchain();
        for (int t = 0; t < 3; t++) {
            kept += x.transformer(t == 1, 0, -1);
        }
        kept += x.weave();
        kept += x.run(false, 0, 20, 0, 1000) + x.run(true, 0, 20, 0, 1000) + x.run(true, 0, 20, 0, 7);
        kept += x.value() + x.used() + x.marks() + x.mark(3) + x.probe(0, 1) + (x.failed(0, 0) ? 1 : 0);
        kept += x.shape(true, 0, 3) + x.code(true, 0, 5) + x.handler(true, 0, 0, 0) + x.depth(true, 0, 4);
    }
}
