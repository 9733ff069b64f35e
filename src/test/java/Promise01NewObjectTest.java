/** Promise 1: a new object. */
final class Promise01NewObjectTest {
    public static void main(String[] args) {
        Sentences tests = new Sentences("Promise 1, SignRows()");
        tests.sentence("No persons, no things; no orders.");
        tests.test("no persons", Promise01NewObjectTest::noPersons);
        tests.test("no things", Promise01NewObjectTest::noThings);
        tests.test("no things, so no signatures", Promise01NewObjectTest::noSignatures);
        tests.test("no orders: each meaning may be signed first", Promise01NewObjectTest::noOrdersForSign);
        tests.test("no orders: each may be told", Promise01NewObjectTest::noOrdersTold);
        tests.test("whatever was told to another object", Promise01NewObjectTest::objectsApart);
        tests.close();
    }

    private static void noPersons(Answers answers) {
        Run run = new Run(answers);
        run.role(0, 0, 0, 1, false);
        run.thing(0, SignRows.NONE);
        run.person(0);
        run.role(0, 0, 0, 1, true);
        run.thing(0, 0);
    }

    private static void noThings(Answers answers) {
        Run run = Run.withPersons(answers, 1);
        run.role(0, 0, 0, 1, true);
        run.byteOf(0, 1, false);
        run.sign(0, 0, 0, 0, SignRows.NONE);
        run.complete(0, SignRows.NONE);
        run.comment(0, 1, 0, false);
        run.digest(0, 0, SignRows.NONE);
        run.digest(0, 32, SignRows.NONE);
        run.needs(0, 0, SignRows.NONE);
        run.thing(0, 0);
    }

    private static void noSignatures(Answers answers) {
        Run run = new Run(answers);
        run.holds(0, false);
        run.withdraw(0, false);
        run.listed(0, SignRows.NONE);
    }

    private static void noOrdersForSign(Answers answers) {
        for (int m = 0; m < 10; m++) {
            Run.withSigners(answers, 2).sign(0, 1, m, 0, 0);
        }
    }

    private static void noOrdersTold(Answers answers) {
        for (int m = 0; m < 10; m++) {
            for (int after = 0; after < 10; after++) {
                new Run(answers).order(m, after, m != after);
            }
        }
    }

    // The two are told different things by turns, so that whatever they shared would show.
    private static void objectsApart(Answers answers) {
        Run one = Run.withSigners(answers, 2);
        one.byteOf(0, 7, true);
        one.order(1, 0, true);
        one.needs(0, 5, 0);
        one.sign(0, 1, 0, 9, 0);
        one.sign(0, 1, 5, 9, 1);
        one.withdraw(1, true);
        one.comment(0, 200, 9, true);
        Run other = asNew(answers);
        other.thing(0, 0);
        other.role(1, 1, 0, 3, true);
        other.order(0, 1, true);
        other.sign(0, 1, 1, 0, 0);
        other.withdraw(0, true);
        other.comment(0, 100, 0, true);
        one.digestOf(0, (byte) 7);
        one.digest(0, 32, 200);
        one.holds(0, true);
        one.listed(0, 1);
        one.complete(0, 1);
        one.order(0, 1, false);
        one.sign(0, 1, 0, 9, SignRows.TWICE);
        one.sign(0, 1, 1, 9, 2);
        one.sign(0, 1, 9, 9, 3);
        one.person(2);
        one.thing(1, 1);
        asNew(answers);
    }

    private static Run asNew(Answers answers) {
        Run run = new Run(answers);
        run.holds(0, false);
        run.withdraw(0, false);
        run.listed(0, SignRows.NONE);
        run.complete(0, SignRows.NONE);
        run.digest(0, 0, SignRows.NONE);
        run.thing(0, SignRows.NONE);
        run.person(0);
        run.person(1);
        return run;
    }
}
