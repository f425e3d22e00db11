import java.util.NoSuchElementException;

/** Counts and prints answers that are not as due; every test ends with done(). */
final class Check {
    static final Class<NoSuchElementException> NONE = NoSuchElementException.class;
    static final Class<IllegalArgumentException> RANGE = IllegalArgumentException.class;
    static final Class<IllegalStateException> STATE = IllegalStateException.class;
    static final Class<UnsupportedOperationException> FULL = UnsupportedOperationException.class;
    static final Class<ArithmeticException> NO_DIVISOR = ArithmeticException.class;

    interface Call {
        void run();
    }

    private static String about = "";
    private static int askedAbout = 1;
    private static int sentences = 0;
    private static int asked = 0;
    private static int wrong = 0;

    private Check() {
    }

    /** What follows is about these words of the document; words that nothing is asked about are a fault. */
    static void sentence(String where, String words) {
        endSentence();
        about = where + ", \"" + words + "\": ";
        askedAbout = 0;
        sentences++;
    }

    private static void endSentence() {
        if (askedAbout == 0) {
            fault("nothing was asked");
        }
    }

    private static void fault(String text) {
        wrong++;
        System.out.println(about + text);
    }

    static void same(String what, long got, long due) {
        asked++;
        askedAbout++;
        if (got != due) {
            fault(what + " answered " + got + ", due is " + due);
        }
    }

    static void yes(String what, boolean got) {
        same(what, got ? 1 : 0, 1);
    }

    static void no(String what, boolean got) {
        same(what, got ? 1 : 0, 0);
    }

    static void sameText(String what, String got, String due) {
        asked++;
        askedAbout++;
        if (!got.equals(due)) {
            fault(what + "\n  answered " + got + "\n  due is   " + due);
        }
    }

    /** The very class is asked for: a class below it would be another refusal. */
    static void refused(String what, Class<? extends RuntimeException> due, Call call) {
        asked++;
        askedAbout++;
        RuntimeException got = thrownBy(call);
        if (got == null || got.getClass() != due) {
            fault(what + " threw " + got + ", due is " + due.getName());
        }
    }

    static RuntimeException thrownBy(Call call) {
        try {
            call.run();
            return null;
        } catch (RuntimeException e) {
            return e;
        }
    }

    /** The first numbers outside a range, at both ends, and the least and the greatest int. */
    static int[] outside(int least, int most) {
        return new int[] {Integer.MIN_VALUE, least - 1, most + 1, Integer.MAX_VALUE};
    }

    /** Numbers that none of so many lots, lines or gifts bears; 32 and 256 off would pass if bits were cut off. */
    static int[] beyond(int size) {
        return new int[] {Integer.MIN_VALUE, -256, -32, -1, size, size + 1, size + 32, size + 256, 32, 256, 65536,
            Integer.MAX_VALUE};
    }

    static void done(String name) {
        endSentence();
        System.out.println(name + ": " + (sentences == 0 ? "" : sentences + " sentences, ") + asked + " answers, "
                + wrong + " not as due");
        if (wrong != 0 || asked == 0) {
            System.exit(1);
        }
    }
}
