/** Fixed runs of mixed calls, each answer compared with that of PlainRows. */
final class ManyRunsTest {
    private static final int RUNS = 2000;
    private static final int CALLS = 400;
    private static final int LAST_QUESTIONS = (Run.MOST_CALLS - CALLS) / 2;

    private final Answers answers;
    private final SignRows rows = new SignRows();
    private final PlainRows plain = new PlainRows();
    private final int run;
    // How many persons and things a run deals with: few make refusals for being known already likely.
    private final int persons;
    private final int things;
    private long state;
    private long second;

    private ManyRunsTest(Answers answers, int run) {
        this.answers = answers;
        this.run = run;
        this.state = run * 7919L + 1;
        this.persons = 2 + below(run % 3 == 0 ? 24 : 4);
        this.things = 1 + below(run % 5 == 0 ? 17 : 3);
    }

    public static void main(String[] args) {
        Answers answers = new Answers("many runs");
        for (int run = 0; run < RUNS; run++) {
            new ManyRunsTest(answers, run).go();
        }
        answers.close();
    }

    // A row of numbers that is the same at every run of the test.
    private int below(int bound) {
        state = state * 6364136223846793005L + 1442695040888963407L;
        return (int) ((state >>> 33) % bound);
    }

    private int about(int count) {
        return below(40) == 0 ? below(3) == 0 ? -1 : count + below(3) : below(count);
    }

    private long someSecond() {
        switch (below(24)) {
            case 0: return second - 1 - below(3);
            case 1: return Run.LAST + below(2);
            case 2: return second + below(60);
            default: return second;
        }
    }

    private void go() {
        for (int call = 0; call < CALLS; call++) {
            if (call < 24 + run % 40) {
                setUp(call);
            } else {
                one(call);
            }
        }
        for (int k = -1; k < LAST_QUESTIONS - 1; k++) {
            same("holds(" + k + ")", rows.holds(k) ? 1 : 0, plain.holds(k) ? 1 : 0);
            same("listed(" + k + ")", rows.listed(k), plain.listed(k));
        }
    }

    private void setUp(int call) {
        if (call < persons) {
            same("person()", rows.person(), plain.person());
        } else if (below(4) == 0) {
            newThing();
        } else {
            newRole();
        }
    }

    private void one(int call) {
        int kind = below(100);
        if (kind < 45) {
            newSignature();
        } else if (kind < 52) {
            int s = about(1 + call / 3);
            same("withdraw(" + s + ")", rows.withdraw(s) ? 1 : 0, plain.withdraw(s) ? 1 : 0);
        } else if (kind < 57) {
            newByte();
        } else if (kind < 62) {
            newOrder();
        } else if (kind < 67) {
            int t = about(things);
            int m = about(10);
            same("needs(" + t + ", " + m + ")", rows.needs(t, m), plain.needs(t, m));
        } else if (kind < 72) {
            newComment();
        } else if (kind < 78) {
            int t = about(things);
            same("complete(" + t + ")", rows.complete(t), plain.complete(t));
        } else if (kind < 84) {
            int t = about(things);
            int i = about(45);
            same("digest(" + t + ", " + i + ")", rows.digest(t, i), plain.digest(t, i));
        } else {
            rare(call);
        }
    }

    private void rare(int call) {
        switch (below(5)) {
            case 0: newRole(); break;
            case 1: newThing(); break;
            case 2: same("person()", rows.person(), plain.person()); break;
            case 3: {
                int s = about(1 + call / 3);
                same("holds(" + s + ")", rows.holds(s) ? 1 : 0, plain.holds(s) ? 1 : 0);
                break;
            }
            default: {
                int k = about(1 + call / 20);
                same("listed(" + k + ")", rows.listed(k), plain.listed(k));
            }
        }
    }

    private void newThing() {
        int p = about(persons);
        same("thing(" + p + ")", rows.thing(p), plain.thing(p));
    }

    private void newRole() {
        int p = about(persons);
        int r = about(10);
        long from = second + below(10) - 5;
        long to = below(3) == 0 ? Run.LAST : second + below(300) - 10;
        same("role(" + p + ", " + r + ", " + from + ", " + to + ")",
            rows.role(p, r, from, to) ? 1 : 0, plain.role(p, r, from, to) ? 1 : 0);
    }

    private void newSignature() {
        int t = about(things);
        int p = about(persons);
        int m = about(10);
        long at = someSecond();
        int got = Run.sign(rows, t, p, m, at);
        same("sign(" + t + ", " + p + ", " + m + ", " + at + ")", got, plain.sign(t, p, m, at));
        second = got >= 0 && at < Run.LAST - 1 ? at : second;
    }

    private void newByte() {
        int t = about(things);
        int b = about(256);
        same("byteOf(" + t + ", " + b + ")", rows.byteOf(t, b) ? 1 : 0, plain.byteOf(t, b) ? 1 : 0);
    }

    private void newOrder() {
        int m = about(10);
        int after = about(10);
        same("order(" + m + ", " + after + ")", rows.order(m, after) ? 1 : 0, plain.order(m, after) ? 1 : 0);
    }

    // A comment seldom stands at the last second, behind which nothing more could be signed.
    private void newComment() {
        int t = about(things);
        int u = about(256);
        long at = run % 50 == 0 ? someSecond() : Math.min(someSecond(), second + 60);
        boolean got = rows.comment(t, u, at);
        same("comment(" + t + ", " + u + ", " + at + ")", got ? 1 : 0, plain.comment(t, u, at) ? 1 : 0);
        second = got && at < Run.LAST - 1 ? at : second;
    }

    private void same(String call, int got, int want) {
        answers.due("run " + run + ": " + call, got, want);
    }
}
