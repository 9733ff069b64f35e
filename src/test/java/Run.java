/** A run of calls on a new object: each is counted, and its answer compared with the one that is due. */
final class Run {
    /** Stands for an answer of sign: it has thrown IllegalStateException. */
    static final int THROWN = Integer.MIN_VALUE;
    static final long LAST = 1_000_000_000_000L;
    static final int MOST_CALLS = 512;
    /** Numbers that nothing has in a short run; in a byte, a short or without their sign some would be small. */
    static final int[] NO_NUMBER = {-1, 400, 1 << 8, 1 << 16, -(1 << 16), Integer.MIN_VALUE, Integer.MAX_VALUE};

    private final Answers answers;
    private final SignRows rows = new SignRows();
    private final int mostCalls;
    private int calls;

    Run(Answers answers) {
        this(answers, MOST_CALLS);
    }

    private Run(Answers answers, int mostCalls) {
        this.answers = answers;
        this.mostCalls = mostCalls;
    }

    /** A run behind whose 512th call nothing is promised: for limits that no shorter run can reach. */
    static Run beyondPromise(Answers answers) {
        return new Run(answers, Integer.MAX_VALUE);
    }

    /** A run with some persons. */
    static Run withPersons(Answers answers, int count) {
        Run run = new Run(answers);
        for (int p = 0; p < count; p++) {
            run.person(p);
        }
        return run;
    }

    /** A run with thing 0 of person 0, and persons 1 .. count - 1 who hold every role for ever. */
    static Run withSigners(Answers answers, int count) {
        Run run = withPersons(answers, count);
        for (int p = 1; p < count; p++) {
            for (int r = 0; r < 10; r++) {
                run.role(p, r, 0, LAST, true);
            }
        }
        run.thing(0, 0);
        return run;
    }

    int calls() {
        return calls;
    }

    void person(int due) {
        check("person()", rows.person(), due);
    }

    void role(int person, int r, long from, long to, boolean due) {
        String call = "role(" + person + ", " + r + ", " + from + ", " + to + ")";
        check(call, rows.role(person, r, from, to), due);
    }

    void thing(int maker, int due) {
        check("thing(" + maker + ")", rows.thing(maker), due);
    }

    void byteOf(int thing, int b, boolean due) {
        check("byteOf(" + thing + ", " + b + ")", rows.byteOf(thing, b), due);
    }

    void sign(int thing, int person, int meaning, long second, int due) {
        String call = "sign(" + thing + ", " + person + ", " + meaning + ", " + second + ")";
        check(call, sign(rows, thing, person, meaning, second), due);
    }

    void holds(int signature, boolean due) {
        check("holds(" + signature + ")", rows.holds(signature), due);
    }

    void withdraw(int signature, boolean due) {
        check("withdraw(" + signature + ")", rows.withdraw(signature), due);
    }

    void order(int meaning, int after, boolean due) {
        check("order(" + meaning + ", " + after + ")", rows.order(meaning, after), due);
    }

    void complete(int thing, int due) {
        check("complete(" + thing + ")", rows.complete(thing), due);
    }

    void comment(int thing, int u, long second, boolean due) {
        check("comment(" + thing + ", " + u + ", " + second + ")", rows.comment(thing, u, second), due);
    }

    void digest(int thing, int i, int due) {
        check("digest(" + thing + ", " + i + ")", rows.digest(thing, i), due);
    }

    /** Asks for the 32 bytes of a thing's digest. */
    void digestOf(int thing, byte... bytes) {
        byte[] due = Digests.sha256(bytes);
        for (int i = 0; i < due.length; i++) {
            digest(thing, i, due[i] & 0xff);
        }
    }

    void listed(int k, int due) {
        check("listed(" + k + ")", rows.listed(k), due);
    }

    void needs(int thing, int meaning, int due) {
        check("needs(" + thing + ", " + meaning + ")", rows.needs(thing, meaning), due);
    }

    /** The answer of sign, or THROWN where it throws IllegalStateException itself, no class below it. */
    static int sign(SignRows rows, int thing, int person, int meaning, long second) {
        try {
            return rows.sign(thing, person, meaning, second);
        } catch (IllegalStateException e) {
            return e.getClass() == IllegalStateException.class ? THROWN : THROWN + 1;
        }
    }

    private void check(String call, boolean got, boolean due) {
        check(call, got ? 1 : 0, due ? 1 : 0);
    }

    private void check(String call, int got, int due) {
        calls++;
        if (calls > mostCalls) {
            throw new IllegalArgumentException("the test makes more calls than the document allows: " + call);
        }
        answers.due("call " + calls + ", " + call, got, due);
    }
}
