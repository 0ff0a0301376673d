/** Counts what is not as due; each test tells it at its end. */
final class Check {
    static final String IOOBE = "IndexOutOfBoundsException";
    static final String IAE = "IllegalArgumentException";
    static final String ISE = "IllegalStateException";

    private static int wrong = 0;
    private static int asked = 0;

    private Check() { }

    interface Call {
        long answer();
    }

    static long bit(boolean is) {
        return is ? 1 : 0;
    }

    static void due(String what, long want, long got) {
        asked++;
        if (got != want) {
            wrong++;
            System.out.println("  " + what + " answered " + got + ", due is " + want);
        }
    }

    static void holds(String what, boolean isSo) {
        due(what, 1, bit(isSo));
    }

    /** The exception must be of the very class: what the machine throws is of a class below it. */
    static void fails(String what, String exception, Call call) {
        asked++;
        String got = outcome(call);
        if (!got.equals(exception)) {
            wrong++;
            System.out.println("  " + what + " gave " + got + ", due is " + exception);
        }
    }

    /** What the call answers, or the class of what it throws. */
    static String outcome(Call call) {
        try {
            return "" + call.answer();
        } catch (RuntimeException e) {
            return e.getClass().getSimpleName();
        }
    }

    static void end(String test) {
        System.out.println(test + ": " + asked + " asked, " + wrong + " not as due");
        if (wrong != 0) {
            System.exit(1);
        }
    }
}
