/** Counts and prints the answers that are not the ones due; a test ends with close(). */
final class Answers {
    private final String test;
    private int asked;
    private int wrong;

    Answers(String test) {
        this.test = test;
    }

    void due(String call, long got, long want) {
        asked++;
        if (got != want) {
            wrong++;
            System.out.println(test + ": " + call + " answered " + got + ", due is " + want);
        }
    }

    void due(String call, boolean got, boolean want) {
        due(call, got ? 1 : 0, want ? 1 : 0);
    }

    /** A test that asks nothing shows nothing, so it counts as broken. */
    boolean isBroken() {
        return wrong != 0 || asked == 0;
    }

    void close() {
        System.out.println(test + ": " + asked + " answers, " + wrong + " wrong");
        if (isBroken()) {
            System.exit(1);
        }
    }
}
