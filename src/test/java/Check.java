/** Counts what is not as due; each test tells it at its end. */
final class Check {
    static final String IOOBE = "IndexOutOfBoundsException";
    static final String IAE = "IllegalArgumentException";
    static final String ISE = "IllegalStateException";

    private static final int MOST_SECONDS = 20;
    private static final int MOST_SECONDS_BEHIND_A_FAULT = 3;
    private static final int MOST_WRONG = 200;

    private static volatile int asked = 0;
    private static volatile int wrong = 0;

    static {
        Thread watch = new Thread(Check::endWhatDoesNotEnd);
        watch.setDaemon(true);
        watch.start();
    }

    private Check() { }

    /** A call that does not end is not as due: without this the tests would not end either. */
    private static void endWhatDoesNotEnd() {
        int before = -1;
        for (int seconds = 0; seconds < mostSeconds(); seconds++) {
            if (asked != before) {
                before = asked;
                seconds = 0;
            }
            try {
                Thread.sleep(1000);
            } catch (InterruptedException e) {
                return;
            }
        }
        System.out.println("  a call does not end, behind " + asked + " asked, " + wrong + " not as due");
        Runtime.getRuntime().halt(1);
    }

    private static int mostSeconds() {
        return wrong == 0 ? MOST_SECONDS : MOST_SECONDS_BEHIND_A_FAULT;
    }

    interface Call {
        long answer();
    }

    static long bit(boolean is) {
        return is ? 1 : 0;
    }

    static void due(String what, long want, long got) {
        asked = asked + 1;
        if (got != want) {
            isWrong(what + " answered " + got + ", due is " + want);
        }
    }

    static void holds(String what, boolean isSo) {
        due(what, 1, bit(isSo));
    }

    /** The exception must be of the very class: what the machine throws is of a class below it. */
    static void fails(String what, String exception, Call call) {
        asked = asked + 1;
        String got = outcome(call);
        if (!got.equals(exception)) {
            isWrong(what + " gave " + got + ", due is " + exception);
        }
    }

    /** So many tell enough: the rest is not asked. */
    private static void isWrong(String what) {
        wrong = wrong + 1;
        System.out.println("  " + what);
        if (wrong == MOST_WRONG) {
            end("stopped");
        }
    }

    /** What the call answers, or the class of what it throws. */
    static String outcome(Call call) {
        try {
            return "" + call.answer();
        } catch (RuntimeException e) {
            return e.getClass().getSimpleName();
        }
    }

    static void end(String test) {
        System.out.println(test + ": " + asked + " asked, " + wrong + " not as due");
        if (wrong != 0) {
            System.exit(1);
        }
    }
}
