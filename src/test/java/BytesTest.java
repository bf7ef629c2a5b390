/** Promises 2 (put) and 3 (clear). */
public final class BytesTest {
    private static final Check check = new Check("BytesTest");

    public static void main(String[] args) {
        wrongCounts();
        highestByteFirst();
        lowestBytesOfWord();
        limitIsTwoHundredAndForty();
        clearForgetsBytesAlone();
        check.finish();
    }

    private static void wrongCounts() {
        AdviceWeaver x = new AdviceWeaver();
        for (int n : new int[] {0, 5, -1, 8, Integer.MIN_VALUE, Integer.MAX_VALUE}) {
            check.is("put of " + n + " bytes", x.put(202, n), false);
        }
        check.is("nothing was put", x.load(), -1);
    }

    private static void highestByteFirst() {
        AdviceWeaver x = new AdviceWeaver();
        check.is("four bytes", x.put(0xCA017A00, 4), true);
        check.is("three bytes", x.put(0x000103, 3), true);
        check.is("two bytes", x.put(0x0180, 2), true);
        check.is("one byte", x.put(0x0E, 1), true);
        check.is("the handlers", x.put(0, 1), true);
        check.is("they make a class", x.load(), 1);
        check.code("the class", x, false, 0, 1, 128, 14);
    }

    private static void lowestBytesOfWord() {
        AdviceWeaver x = new AdviceWeaver();
        for (int b : new ClassBytes().method('a', 0, 0, 1, 1, 5, 14).bytes()) {
            check.is("put", x.put(b | 0x7FABCD00, 1), true);
        }
        check.is("the higher bytes do not count", x.load(), 1);
    }

    private static void limitIsTwoHundredAndForty() {
        AdviceWeaver x = new AdviceWeaver();
        x.put(202, 1);
        for (int i = 0; i < 59; i++) {
            check.is("put below 240", x.put(0, 4), true);
        }
        check.is("241 bytes", x.put(0, 4), false);
        check.is("240 bytes", x.put(0, 3), true);
        for (int n = 1; n <= 4; n++) {
            check.is("more than 240 bytes", x.put(0, n), false);
        }
        x.clear();
        for (int i = 0; i < 60; i++) {
            check.is("240 bytes after clear", x.put(0, 4), true);
        }
        check.is("not one more", x.put(0, 1), false);
    }

    private static void clearForgetsBytesAlone() {
        AdviceWeaver x = new AdviceWeaver();
        new ClassBytes().method('a', 0, 0, 1, 1, 5, 14).loadInto(x);
        x.transformer(false, 0, -1);
        x.weave();
        x.run(true, 0, 0, 0, 10);
        x.clear();
        check.is("no bytes", x.load(), -1);
        check.is("the class stays", x.shape(false, 0, 0), 3);
        check.is("what was woven stays", x.shape(true, 0, 0), 10);
        check.is("the latest run stays", x.value(), 5);
        check.is("the chain stays", x.transformer(false, 0, -1), 1);
        x.clear();
        check.is("clear without bytes", x.load(), -1);
    }
}
