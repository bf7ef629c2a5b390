/** Counts the answers that are not as due, and prints them. */
final class Check {
    private final String test;
    private int asked = 0;
    private int wrong = 0;

    Check(String test) {
        this.test = test;
    }

    void is(String what, long got, long due) {
        asked++;
        if (got != due) {
            wrong++;
            System.out.println(test + ": " + what + " answered " + got + ", due is " + due);
        }
    }

    void is(String what, boolean got, boolean due) {
        is(what, got ? 1 : 0, due ? 1 : 0);
    }

    /** Code of a method, byte for byte. */
    void code(String what, AdviceWeaver x, boolean woven, int m, int... due) {
        for (int p = 0; p < due.length; p++) {
            is(what + ", byte " + p, x.code(woven, m, p), due[p] & 255);
        }
        is(what + ", behind its end", x.code(woven, m, due.length), AdviceWeaver.NONE);
        is(what + ", its length", x.shape(woven, m, 0), due.length);
    }

    void handler(String what, AdviceWeaver x, boolean woven, int m, int h, int... due) {
        for (int part = 0; part < due.length; part++) {
            is(what + ", handler " + h + ", part " + part, x.handler(woven, m, h, part), due[part]);
        }
    }

    void marks(String what, AdviceWeaver x, int... due) {
        is(what + ", marks", x.marks(), due.length);
        for (int k = 0; k < due.length; k++) {
            is(what + ", mark " + k, x.mark(k), due[k]);
        }
        is(what + ", mark behind the last", x.mark(due.length), AdviceWeaver.NONE);
    }

    void finish() {
        System.out.println(test + ": " + asked + " answers, " + wrong + " not as due");
        if (wrong != 0) {
            System.exit(1);
        }
    }
}
