/** Compares answers with those that are due, counts the wrong ones and ends the test program. */
final class Check {
    private static final int SHOWN = 20;

    private int right = 0;
    private int wrong = 0;

    /** A call of the class under test. */
    interface Call {
        Object answer();
    }

    /**
     * Returns what a call answered: the answer, or the full name of the exception's class. An
     * exception that the machine throws is told apart from one that the class throws itself.
     */
    static String outcome(Call call) {
        try {
            return String.valueOf(call.answer());
        } catch (RuntimeException e) {
            StackTraceElement[] trace = e.getStackTrace();
            boolean own = trace.length > 0 && trace[0].getClassName().startsWith("FactLedger");
            boolean divided = "/ by zero".equals(e.getMessage());
            return own && !divided ? e.getClass().getName() : "the machine threw " + e;
        }
    }

    void due(String what, Call call, Object want) {
        same(what, outcome(call), String.valueOf(want));
    }

    void dueThrow(String what, Call call, Class<? extends RuntimeException> want) {
        same(what, outcome(call), want.getName());
    }

    void same(String what, String got, String want) {
        if (got.equals(want)) {
            right++;
            return;
        }
        wrong++;
        if (wrong <= SHOWN) {
            System.out.println(what + ": answered " + got + ", due is " + want);
        }
    }

    int wrongCount() {
        return wrong;
    }

    /** Ends the program with exit code 1 if an answer was wrong, or if nothing was compared. */
    void end() {
        System.out.println(right + " answers as due, " + wrong + " not");
        if (wrong != 0 || right == 0) {
            System.exit(1);
        }
    }
}
