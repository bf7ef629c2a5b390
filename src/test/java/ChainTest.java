/** Promises 5 (transformer) and 6 (unchain), and the matchers. */
public final class ChainTest {
    private static final Check check = new Check("ChainTest");

    public static void main(String[] args) {
        numbersAsSaid();
        threeAtMost();
        unchainEmptiesChainAlone();
        matchers();
        check.finish();
    }

    private static void numbersAsSaid() {
        for (int letter = -1; letter < 130; letter++) {
            boolean right = letter == 0 || letter >= 97 && letter <= 122;
            check.is("letter " + letter, new AdviceWeaver().transformer(true, letter, -1), right ? 0 : -1);
        }
        for (int args = -3; args < 5; args++) {
            boolean right = args >= -1 && args <= 2;
            check.is("args " + args, new AdviceWeaver().transformer(false, 0, args), right ? 0 : -1);
        }
        int[] far = {Integer.MIN_VALUE, Integer.MAX_VALUE, 97 + 256, 97 - 256};
        for (int number : far) {
            check.is("letter " + number, new AdviceWeaver().transformer(true, number, -1), -1);
            check.is("args " + number, new AdviceWeaver().transformer(true, 0, number), -1);
        }
    }

    private static void threeAtMost() {
        AdviceWeaver x = new AdviceWeaver();
        check.is("first", x.transformer(true, 97, 0), 0);
        check.is("wrong letter", x.transformer(true, 123, 0), -1);
        check.is("second", x.transformer(false, 122, 2), 1);
        check.is("wrong args", x.transformer(true, 0, -2), -1);
        check.is("third", x.transformer(true, 0, -1), 2);
        check.is("fourth", x.transformer(true, 0, -1), -1);
        new ClassBytes().method('q', 1, 1, 1, 1, 5, 14).loadInto(x);
        check.is("the refused ones are not there", x.weave(), 1);
        check.code("the third alone fits", x, true, 0, 31, 0, 1, 5, 14);
    }

    private static void unchainEmptiesChainAlone() {
        AdviceWeaver x = new AdviceWeaver();
        new ClassBytes().method('q', 1, 1, 1, 1, 5, 14).loadInto(x);
        for (int t = 0; t < 3; t++) {
            x.transformer(false, 0, -1);
        }
        x.weave();
        x.run(true, 0, 0, 0, 10);
        x.unchain();
        check.is("what was woven stays", x.shape(true, 0, 0), 24);
        check.marks("the latest run stays", x, 6, 3, 0, 1, 4, 7);
        check.is("numbers begin anew", x.transformer(true, 0, -1), 0);
        check.is("weaving with the new one", x.weave(), 1);
        check.code("by the new one", x, true, 0, 31, 0, 1, 5, 14);
        x.unchain();
        x.unchain();
        check.is("weaving with none", x.weave(), 0);
        check.code("by none", x, true, 0, 1, 5, 14);
        check.is("it is woven all the same", x.run(true, 0, 0, 0, 10), 0);
    }

    private static void matchers() {
        for (int letter : new int[] {0, 'p', 'q', 'r'}) {
            for (int args = -1; args <= 2; args++) {
                AdviceWeaver x = new AdviceWeaver();
                new ClassBytes().method('p', 0, 2, 1, 1, 5, 14).method('q', 1, 2, 1, 1, 5, 14)
                    .method('r', 2, 2, 1, 1, 5, 14).method('s', 1, 2, 1, 1, 5, 14).loadInto(x);
                x.transformer(true, letter, args);
                int fitting = 0;
                int[] argsOf = {0, 1, 2, 1};
                for (int m = 0; m < 4; m++) {
                    boolean fits = (letter == 0 || letter == 'p' + m) && (args == -1 || args == argsOf[m]);
                    fitting += fits ? 1 : 0;
                }
                check.is("weave with " + letter + ", " + args, x.weave(), fitting);
                for (int m = 0; m < 4; m++) {
                    boolean fits = (letter == 0 || letter == 'p' + m) && (args == -1 || args == argsOf[m]);
                    check.is("method " + m + " with " + letter + ", " + args, x.shape(true, m, 0), fits ? 5 : 3);
                }
            }
        }
    }
}
