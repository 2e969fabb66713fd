/** Counts the answers that are not as due, and ends a test. */
final class Due {
    interface Call {
        long answer();
    }

    private int asked = 0;
    private int wrong = 0;

    void is(String call, long got, long want) {
        asked++;
        if (got != want) report(call + " answered " + got + ", due is " + want);
    }

    /** The very class is due, and thrown by the program: the machine's own exception has a text of its own. */
    void throwsIndex(String call, Call made) {
        asked++;
        try {
            report(call + " answered " + made.answer() + ", due is ArrayIndexOutOfBoundsException");
        } catch (RuntimeException e) {
            boolean byMachine = String.valueOf(e.getMessage()).contains("out of bounds for length");
            if (e.getClass() != ArrayIndexOutOfBoundsException.class || byMachine) report(call + " threw " + e);
        }
    }

    void report(String what) {
        wrong++;
        if (wrong <= 40) System.out.println(what);
    }

    boolean isClean() {
        return wrong == 0;
    }

    void end() {
        System.out.println(wrong == 0 ? asked + " answers are as due" : wrong + " of " + asked + " answers are not as due");
        if (wrong != 0 || asked == 0) System.exit(1);
    }
}
