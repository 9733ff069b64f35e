/** Counts and prints the answers that are not the ones due; a test ends with close(). */
final class Answers {
    static final int THROWN = Integer.MIN_VALUE;
    static final long LAST = 1_000_000_000_000L;

    private final String test;
    private int asked;
    private int wrong;

    Answers(String test) {
        this.test = test;
    }

    void due(String call, long got, long want) {
        asked++;
        if (got != want) {
            wrong++;
            System.out.println(test + ": " + call + " answered " + got + ", due is " + want);
        }
    }

    void due(String call, boolean got, boolean want) {
        due(call, got ? 1 : 0, want ? 1 : 0);
    }

    void close() {
        System.out.println(test + ": " + asked + " answers, " + wrong + " wrong");
        if (wrong != 0 || asked == 0) {
            System.exit(1);
        }
    }

    /** The answer of sign, or THROWN where it throws IllegalStateException itself. */
    static int sign(SignRows rows, int thing, int person, int meaning, long second) {
        try {
            return rows.sign(thing, person, meaning, second);
        } catch (IllegalStateException e) {
            return e.getClass() == IllegalStateException.class ? THROWN : THROWN + 1;
        }
    }

    static SignRows withPersons(int count) {
        SignRows rows = new SignRows();
        for (int p = 0; p < count; p++) {
            rows.person();
        }
        return rows;
    }

    /** Persons 0 .. count - 1, where all but person 0 hold every role for ever, and one thing of person 0. */
    static SignRows withSigners(int count) {
        SignRows rows = withPersons(count);
        for (int p = 1; p < count; p++) {
            for (int r = 0; r < 10; r++) {
                rows.role(p, r, 0, LAST);
            }
        }
        rows.thing(0);
        return rows;
    }
}
