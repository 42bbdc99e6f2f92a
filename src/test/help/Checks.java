import java.util.NoSuchElementException;

/** What the tests of the project share: answers that are due, refused calls, texts on the tape. */
class Checks {
    static final int NONE = ClawBoxes.NONE;
    static final int VOID = Integer.MIN_VALUE;
    static final Class<?> CELL = IndexOutOfBoundsException.class;
    static final Class<?> WRONG = IllegalArgumentException.class;
    static final Class<?> NO_SUCH = NoSuchElementException.class;

    private static String subject = "";
    private static int wrong = 0;

    interface Call {
        void make();
    }

    /** What the checks that follow are about: a promise, or a sentence of the document. */
    static void about(String what) {
        subject = what;
    }

    static void due(String what, long got, long want) {
        if (got != want) {
            fault(what + " answered " + got + ", due is " + want);
        }
    }

    static void refused(Class<?> kind, String what, Call call) {
        String got = "nothing";
        try {
            call.make();
        } catch (RuntimeException e) {
            got = e.getClass() == kind ? "" : e.getClass().getName();
        }
        if (!got.isEmpty()) {
            fault(what + " threw " + got + ", due is " + kind.getName());
        }
    }

    private static void fault(String what) {
        wrong++;
        System.out.println(subject + ": " + what);
    }

    static void end() {
        System.out.println(wrong == 0 ? "all answers are as due" : wrong + " answers are not as due");
        if (wrong != 0) {
            System.exit(1);
        }
    }

    private static int word(String s, int from) {
        int v = 0;
        for (int i = from; i < from + 4; i++) {
            v = v << 8 | (i < s.length() ? s.charAt(i) : 0);
        }
        return v;
    }

    static void tape(ClawBoxes x, String s) {
        for (int i = 0; i < s.length(); i += 20) {
            x.feed(word(s, i), word(s, i + 4), word(s, i + 8), word(s, i + 12), word(s, i + 16));
        }
    }

    static int text(ClawBoxes x, String s, boolean law) {
        tape(x, s);
        return x.program(s.length(), law);
    }

    /** A box that a program steers from the start. */
    static ClawBoxes ruled(String s) {
        ClawBoxes x = new ClawBoxes();
        text(x, s, false);
        x.force(0);
        return x;
    }

    static void faulty(String s, boolean law, int kind, int place) {
        ClawBoxes x = new ClawBoxes();
        due((law ? "law '" : "program '") + s + "'", text(x, s, law), kind == 0 ? 0 : kind - 10);
        due("place of '" + s + "'", x.fault(), kind == 0 ? NONE : place);
        due("tape behind '" + s + "'", x.count(12), 0);
    }

    /** What an E is worth for the first try of a new object, held within 0 and 999. */
    static void grips(String e, int want) {
        due("grip " + e, ruled("grip " + e + ";").tells(0, 0), want);
    }

    static void holds(String c, boolean want) {
        due(c, ruled("grip 7 if " + c + ";").tells(0, 0), want ? 7 : 0);
    }
}
