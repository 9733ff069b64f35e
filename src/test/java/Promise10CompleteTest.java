/** Promise 10: complete. */
final class Promise10CompleteTest {
    public static void main(String[] args) {
        Sentences tests = new Sentences("Promise 10, complete");
        tests.sentence("0 when of each meaning that a thing needs some signature holds; else 1 plus the number, "
            + "from 0, of the first need that lacks one.");
        tests.test("0 when it needs none", Promise10CompleteTest::noNeeds);
        tests.test("0 when all ten are there", Promise10CompleteTest::allNeeds);
        tests.test("some signature, whoever signed", Promise10CompleteTest::someSignature);
        tests.test("on this thing", Promise10CompleteTest::onThisThing);
        tests.test("holds, not withdrawn", Promise10CompleteTest::withdrawn);
        tests.test("holds, the thing not changed", Promise10CompleteTest::changed);
        tests.test("1 plus the number 0", Promise10CompleteTest::firstNeed);
        tests.test("1 plus the number 9", Promise10CompleteTest::tenthNeed);
        tests.test("the first of several, by need, not by meaning", Promise10CompleteTest::firstOfSeveral);
        tests.sentence("NONE when there is no such thing.");
        tests.test("no such thing", Promise10CompleteTest::noThing);
        tests.close();
    }

    private static void noNeeds(Answers answers) {
        Run run = Run.withSigners(answers, 2);
        run.complete(0, 0);
        run.needs(0, 10, SignRows.NONE);
        run.complete(0, 0);
        run.thing(0, 1);
        run.needs(1, 4, 0);
        run.complete(0, 0);
    }

    private static void allNeeds(Answers answers) {
        Run run = Run.withSigners(answers, 2);
        for (int m = 9; m >= 0; m--) {
            run.needs(0, m, 9 - m);
        }
        for (int n = 0; n < 10; n++) {
            run.complete(0, 1 + n);
            run.sign(0, 1, 9 - n, 0, n);
        }
        run.complete(0, 0);
    }

    private static void someSignature(Answers answers) {
        Run run = Run.withSigners(answers, 3);
        run.needs(0, 4, 0);
        run.sign(0, 1, 4, 0, 0);
        run.sign(0, 2, 4, 0, 1);
        run.complete(0, 0);
        run.withdraw(0, true);
        run.complete(0, 0);
        run.withdraw(1, true);
        run.complete(0, 1);
    }

    private static void onThisThing(Answers answers) {
        Run run = Run.withSigners(answers, 2);
        run.thing(0, 1);
        run.needs(0, 4, 0);
        run.needs(1, 4, 0);
        run.sign(1, 1, 4, 0, 0);
        run.complete(0, 1);
        run.complete(1, 0);
    }

    private static void withdrawn(Answers answers) {
        Run run = Run.withSigners(answers, 2);
        run.needs(0, 4, 0);
        run.sign(0, 1, 4, 0, 0);
        run.complete(0, 0);
        run.withdraw(0, true);
        run.complete(0, 1);
    }

    private static void changed(Answers answers) {
        Run run = Run.withSigners(answers, 2);
        run.needs(0, 4, 0);
        run.sign(0, 1, 4, 0, 0);
        run.comment(0, 1, 0, true);
        run.complete(0, 0);
        run.byteOf(0, 1, true);
        run.complete(0, 1);
        run.sign(0, 1, 4, 0, 1);
        run.complete(0, 0);
    }

    private static void firstNeed(Answers answers) {
        Run run = Run.withSigners(answers, 2);
        run.needs(0, 0, 0);
        run.complete(0, 1);
        run.sign(0, 1, 0, 0, 0);
        run.complete(0, 0);
    }

    private static void tenthNeed(Answers answers) {
        Run run = Run.withSigners(answers, 2);
        for (int m = 0; m < 10; m++) {
            run.needs(0, m, m);
        }
        for (int m = 0; m < 9; m++) {
            run.sign(0, 1, m, 0, m);
        }
        run.complete(0, 10);
    }

    private static void firstOfSeveral(Answers answers) {
        Run run = Run.withSigners(answers, 2);
        run.needs(0, 7, 0);
        run.needs(0, 2, 1);
        run.needs(0, 5, 2);
        run.complete(0, 1);
        run.sign(0, 1, 2, 0, 0);
        run.complete(0, 1);
        run.sign(0, 1, 7, 0, 1);
        run.complete(0, 3);
        run.withdraw(0, true);
        run.complete(0, 2);
    }

    private static void noThing(Answers answers) {
        Run run = Run.withPersons(answers, 1);
        run.complete(0, SignRows.NONE);
        run.thing(0, 0);
        run.thing(0, 1);
        run.complete(2, SignRows.NONE);
        for (int t : Run.NO_NUMBER) {
            run.complete(t, SignRows.NONE);
        }
        run.complete(1, 0);
    }
}
