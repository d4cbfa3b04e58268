/** Counts the answers that are not the ones due, and says which. */
final class Due {
    private final String test;
    private String topic = "";
    private int asked;
    private int wrong;

    Due(String test) {
        this.test = test;
    }

    /** What the answers from here on are about; it is told with each wrong one. */
    void about(String what) {
        topic = what.isEmpty() ? "" : what + ": ";
    }

    void is(String call, long got, long want) {
        asked++;
        if (got != want) {
            wrong++;
            System.out.println(test + ": " + topic + call + " answered " + got + ", due is " + want);
        }
    }

    void yes(String call, boolean got) {
        is(call, got ? 1 : 0, 1);
    }

    void no(String call, boolean got) {
        is(call, got ? 1 : 0, 0);
    }

    void same(String what, String got, String want) {
        asked++;
        if (!got.equals(want)) {
            wrong++;
            System.out.println(test + ": " + topic + what + "\n    is  " + got + "\n    due " + want);
        }
    }

    boolean anyWrong() {
        return wrong > 0;
    }

    int asked() {
        return asked;
    }

    /** Ends the test, with exit code 1 if an answer was not the one due. */
    void close() {
        System.out.println(test + ": " + asked + " answers, " + wrong + " wrong");
        if (wrong > 0 || asked == 0) {
            System.exit(1);
        }
    }
}
