/** Counts the answers that are not as due, sentence by sentence of the document, and ends a test. */
final class Due {
    interface Call {
        long answer();
    }

    private static final int TERMS = 0;

    private int asked = 0;
    private int wrong = 0;
    private String sentence = "";
    private int askedBefore = -1;

    /** Of which sentence the answers from now on are (promise 0: the terms). DocumentTest looks for these words. */
    void says(int promise, String words) {
        endSentence();
        sentence = (promise == TERMS ? "Terms" : "Promise " + promise) + ", \"" + words + "\": ";
        askedBefore = asked;
    }

    private void endSentence() {
        if (asked == askedBefore) report("no answer was asked for");
    }

    void is(String call, long got, long want) {
        asked++;
        if (got != want) report(call + " answered " + got + ", due is " + want);
    }

    /** The very class is due, and thrown by the program: the machine's own exception has a text of its own. */
    void throwsIndex(String call, Call made) {
        asked++;
        try {
            report(call + " answered " + made.answer() + ", due is ArrayIndexOutOfBoundsException");
        } catch (RuntimeException e) {
            boolean byMachine = String.valueOf(e.getMessage()).contains("out of bounds for length");
            if (e.getClass() != ArrayIndexOutOfBoundsException.class || byMachine) report(call + " threw " + e);
        }
    }

    void report(String what) {
        wrong++;
        if (wrong <= 40) System.out.println(sentence + what);
    }

    boolean isClean() {
        return wrong == 0;
    }

    void end() {
        endSentence();
        System.out.println(wrong == 0 ? asked + " answers are as due" : wrong + " of " + asked + " answers are not as due");
        if (wrong != 0 || asked == 0) System.exit(1);
    }
}
