import java.util.Arrays;

/** A CLASS FILE: both sides of each range, and where the first error is. */
public final class ClassFileEdgesTest {
    private static final Check check = new Check("ClassFileEdgesTest");
    private static final int[] FILE = {
        202, 2,
        98, 1, 2, 3, 3, 1, 5, 14, 2, 0, 3, 2, 9, 2, 3, 2, 0,
        99, 0, 0, 1, 3, 1, 5, 14, 1, 0, 2, 2, 4};
    /** Place, least and greatest byte of what has a range, in both methods. */
    private static final int[][] RANGES = {
        {0, 202, 202}, {1, 1, 4},
        {2, 97, 122}, {3, 0, 2}, {4, 1, 6}, {5, 1, 8}, {6, 1, 40}, {10, 0, 3}, {14, 0, 9}, {18, 0, 9},
        {19, 97, 122}, {20, 0, 2}, {21, 0, 6}, {22, 1, 8}, {23, 1, 40}, {27, 0, 3}, {31, 0, 9}};
    private static final int[] ANY_BYTE = {7, 8, 9, 11, 12, 13, 15, 16, 17, 24, 25, 26, 28, 29, 30};

    public static void main(String[] args) {
        theFileIsRight();
        bothSidesOfEachRange();
        bytesWithoutRange();
        leastAndGreatestAreRead();
        localsFromArgsOn();
        lengthTellsTheCode();
        handlersTellTheirBytes();
        nameThatIsThereAlready();
        bytesMissing();
        bytesBehind();
        firstOfSeveralErrors();
        fileErrorsBeforeMethodErrors();
        smallestAndGreatestFile();
        check.finish();
    }

    private static int load(int... bytes) {
        return ClassBytes.loadInto(new AdviceWeaver(), bytes);
    }

    private static int loadWith(int place, int b) {
        int[] bytes = FILE.clone();
        bytes[place] = b;
        return load(bytes);
    }

    private static void theFileIsRight() {
        check.is("all that is said", load(FILE), 2);
    }

    /** A byte in its range may lead to an error elsewhere, but not here. */
    private static void bothSidesOfEachRange() {
        for (int[] range : RANGES) {
            int place = range[0];
            for (int b = 0; b < 256; b++) {
                boolean outside = b < range[1] || b > range[2];
                boolean alike = place == 19 && b == FILE[2];
                check.is("byte " + b + " at " + place + " is refused", loadWith(place, b) == -1 - place, outside || alike);
            }
        }
    }

    private static void bytesWithoutRange() {
        for (int place : ANY_BYTE) {
            for (int b = 0; b < 256; b++) {
                int answer = loadWith(place, b);
                check.is("byte " + b + " at " + place + " is no error of the file", answer == 2 || answer <= -1000, true);
            }
        }
    }

    private static void loads(String what, int due, char name, int args, int locals, int stack, int... code) {
        check.is(what, new ClassBytes().method(name, args, locals, stack, code).load(), due);
    }

    private static void leastAndGreatestAreRead() {
        loads("NAME 97", 1, 'a', 0, 0, 1, 1, 5, 14);
        loads("NAME 122", 1, 'z', 0, 0, 1, 1, 5, 14);
        loads("NAME 96", -3, (char) 96, 0, 0, 1, 1, 5, 14);
        loads("NAME 123", -3, (char) 123, 0, 0, 1, 1, 5, 14);
        loads("ARGS 0, LOCALS 0, STACK 1", 1, 'm', 0, 0, 1, 1, 5, 14);
        loads("ARGS 2, LOCALS 6, STACK 8", 1, 'm', 2, 6, 8, 1, 5, 14);
        loads("ARGS 3", -4, 'm', 3, 6, 8, 1, 5, 14);
        loads("LOCALS 7", -5, 'm', 2, 7, 8, 1, 5, 14);
        loads("STACK 0", -6, 'm', 2, 6, 0, 1, 5, 14);
        loads("STACK 9", -6, 'm', 2, 6, 9, 1, 5, 14);
        for (int methods = 0; methods <= 5; methods++) {
            ClassBytes file = new ClassBytes();
            for (int m = 0; m < methods; m++) {
                file.method((char) ('a' + m), 0, 0, 1, 1, 5, 14);
            }
            check.is("METHODS " + methods, file.load(), methods >= 1 && methods <= 4 ? methods : -2);
        }
        for (int kind : new int[] {0, 9, 10}) {
            ClassBytes file = new ClassBytes().method('m', 0, 0, 1, 1, 5, 14).handler(0, 3, 2, kind);
            check.is("KIND " + kind, file.load(), kind <= 9 ? 1 : -15);
        }
    }

    private static void localsFromArgsOn() {
        for (int args = 0; args <= 2; args++) {
            for (int locals = 0; locals <= 7; locals++) {
                boolean right = locals >= args && locals <= 6;
                loads("ARGS " + args + ", LOCALS " + locals, right ? 1 : -5, 'm', args, locals, 1, 1, 5, 14);
            }
        }
    }

    /** NOTHINGs and a GOTO to itself; one byte alone is no sound method, but it is read. */
    private static void lengthTellsTheCode() {
        check.is("LENGTH 0", load(202, 1, 'm', 0, 0, 1, 0, 0), -7);
        check.is("LENGTH 1", load(202, 1, 'm', 0, 0, 1, 1, 0, 0), -1000);
        for (int length = 2; length <= 41; length++) {
            int[] code = new int[length];
            code[length - 2] = 10;
            loads("LENGTH " + length, length <= 40 ? 1 : -7, 'm', 0, 0, 1, code);
        }
        check.is("LENGTH one too small", loadWith(23, 2), -27);
        check.is("LENGTH one too great", loadWith(23, 4), -30);
    }

    private static void handlersTellTheirBytes() {
        for (int handlers = 0; handlers <= 4; handlers++) {
            ClassBytes file = new ClassBytes().method('m', 0, 0, 1, 1, 5, 14);
            for (int h = 0; h < handlers; h++) {
                file.handler(0, 3, 2, h);
            }
            check.is("HANDLERS " + handlers, file.load(), handlers <= 3 ? 1 : -11);
        }
        check.is("HANDLERS one too small", loadWith(27, 0), -29);
        check.is("HANDLERS one too great", loadWith(27, 2), -1 - 32);
    }

    private static void nameThatIsThereAlready() {
        for (int first = 0; first < 4; first++) {
            for (int second = first + 1; second < 4; second++) {
                int[] names = {'e', 'f', 'g', 'h'};
                names[second] = names[first];
                ClassBytes file = new ClassBytes();
                for (int name : names) {
                    file.method((char) name, 0, 0, 1, 1, 5, 14);
                }
                check.is("NAME of " + first + " as that of " + second, file.load(), -1 - (2 + 9 * second));
            }
        }
        check.is("no two alike", new ClassBytes().method('b', 0, 0, 1, 1, 5, 14).method('a', 0, 0, 1, 1, 5, 14)
            .method('c', 0, 0, 1, 1, 5, 14).method('z', 0, 0, 1, 1, 5, 14).load(), 4);
        AdviceWeaver x = new AdviceWeaver();
        check.is("a class", new ClassBytes().method('b', 0, 0, 1, 1, 5, 14).loadInto(x), 1);
        check.is("its NAME in the next class", new ClassBytes().method('b', 0, 0, 1, 1, 6, 14).loadInto(x), 1);
        check.is("the NAME of a method that was not read", loadWith(2, 99), -1 - 19);
    }

    private static void bytesMissing() {
        for (int n = 0; n < FILE.length; n++) {
            check.is("the first " + n + " bytes alone", load(Arrays.copyOf(FILE, n)), -1 - n);
        }
        check.is("a method is missing", load(202, 2, 'm', 0, 0, 1, 3, 1, 5, 14, 0), -1 - 11);
    }

    private static void bytesBehind() {
        for (int n = 1; n <= 3; n++) {
            check.is(n + " behind", load(Arrays.copyOf(FILE, FILE.length + n)), -1 - FILE.length);
        }
        for (int b = 0; b < 256; b++) {
            int[] bytes = Arrays.copyOf(FILE, FILE.length + 1);
            bytes[FILE.length] = b;
            check.is("byte " + b + " behind", load(bytes), -1 - FILE.length);
        }
        check.is("a method behind", loadWith(1, 1), -1 - 19);
    }

    /** 255 is in no range. */
    private static void firstOfSeveralErrors() {
        for (int[] first : RANGES) {
            for (int[] second : RANGES) {
                if (first[0] >= second[0]) {
                    continue;
                }
                int[] bytes = FILE.clone();
                bytes[first[0]] = 255;
                bytes[second[0]] = 255;
                check.is("errors at " + first[0] + " and " + second[0], load(bytes), -1 - first[0]);
                bytes = Arrays.copyOf(bytes, second[0]);
                check.is("an error at " + first[0] + ", missing at " + second[0], load(bytes), -1 - first[0]);
            }
            int[] bytes = Arrays.copyOf(FILE, FILE.length + 1);
            bytes[first[0]] = 255;
            check.is("an error at " + first[0] + ", one behind", load(bytes), -1 - first[0]);
        }
        int[] bytes = FILE.clone();
        bytes[19] = bytes[2];
        bytes[20] = 3;
        check.is("a NAME that is there already before ARGS", load(bytes), -1 - 19);
        bytes[18] = 10;
        check.is("KIND before a NAME that is there already", load(bytes), -1 - 18);
    }

    private static void fileErrorsBeforeMethodErrors() {
        int[] bytes = FILE.clone();
        bytes[7] = 255;
        check.is("code that is no instructions", load(bytes), -1000);
        bytes[31] = 10;
        check.is("with an error at the last byte", load(bytes), -1 - 31);
        bytes[31] = 9;
        check.is("without it", load(bytes), -1000);
        check.is("with the last byte missing", load(Arrays.copyOf(bytes, 31)), -1 - 31);
        check.is("with one behind", load(Arrays.copyOf(bytes, 33)), -1 - 32);
    }

    /** Two GOTOs to themselves, the second of which is reached by the handlers alone. */
    private static ClassBytes greatest() {
        int[] code = new int[40];
        code[36] = 10;
        code[38] = 10;
        ClassBytes file = new ClassBytes();
        for (char name = 'a'; name <= 'd'; name++) {
            file.method(name, 2, 6, 8, code).handler(0, 1, 38, 9).handler(35, 36, 38, 0).handler(0, 40, 38, 9);
        }
        return file;
    }

    /** No class has more than 234 bytes, so in 240 there are some behind. */
    private static void smallestAndGreatestFile() {
        check.is("ten bytes", load(202, 1, 'm', 0, 0, 1, 2, 10, 0, 0), 1);
        int[] bytes = greatest().bytes();
        check.is("the bytes of the greatest", bytes.length, 234);
        check.is("the greatest", load(bytes), 4);
        check.is("the greatest without its last byte", load(Arrays.copyOf(bytes, 233)), -1 - 233);
        check.is("240 bytes", load(Arrays.copyOf(bytes, 240)), -1 - 234);
    }
}
