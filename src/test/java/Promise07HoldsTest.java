/** Promise 7: holds. */
final class Promise07HoldsTest {
    public static void main(String[] args) {
        Sentences tests = new Sentences("Promise 7, holds");
        tests.sentence("Whether a signature holds.");
        tests.test("until it is withdrawn", Promise07HoldsTest::withdrawn);
        tests.test("until its thing is changed", Promise07HoldsTest::changed);
        tests.test("a byte that is 0 changes it too", Promise07HoldsTest::changedByZero);
        tests.test("a change of another thing ends nothing", Promise07HoldsTest::otherThing);
        tests.test("nothing else ends it", Promise07HoldsTest::nothingElse);
        tests.sentence("False when there is none.");
        tests.test("no such number", Promise07HoldsTest::none);
        tests.close();
    }

    private static void withdrawn(Answers answers) {
        Run run = Run.withSigners(answers, 3);
        run.sign(0, 1, 0, 0, 0);
        run.sign(0, 2, 0, 0, 1);
        run.sign(0, 1, 1, 0, 2);
        run.holds(1, true);
        run.withdraw(1, true);
        run.holds(0, true);
        run.holds(1, false);
        run.holds(2, true);
        run.sign(0, 2, 0, 0, 3);
        run.holds(1, false);
        run.holds(3, true);
    }

    private static void changed(Answers answers) {
        Run run = Run.withSigners(answers, 2);
        run.byteOf(0, 1, true);
        run.sign(0, 1, 0, 0, 0);
        run.holds(0, true);
        run.byteOf(0, 1, true);
        run.holds(0, false);
        run.sign(0, 1, 0, 0, 1);
        run.holds(0, false);
        run.holds(1, true);
        run.byteOf(0, 1, true);
        run.holds(0, false);
        run.holds(1, false);
    }

    private static void changedByZero(Answers answers) {
        Run run = Run.withSigners(answers, 2);
        run.sign(0, 1, 0, 0, 0);
        run.byteOf(0, 0, true);
        run.holds(0, false);
    }

    private static void otherThing(Answers answers) {
        Run run = Run.withSigners(answers, 2);
        run.thing(0, 1);
        run.sign(0, 1, 0, 0, 0);
        run.sign(1, 1, 0, 0, 1);
        run.byteOf(1, 9, true);
        run.holds(0, true);
        run.holds(1, false);
        run.byteOf(0, 9, true);
        run.holds(0, false);
        run.holds(1, false);
    }

    private static void nothingElse(Answers answers) {
        Run run = Run.withPersons(answers, 2);
        run.thing(0, 0);
        run.role(1, 0, 0, 5, true);
        run.role(1, 1, 0, 5, true);
        run.order(1, 0, true);
        run.sign(0, 1, 0, 5, 0);
        run.sign(0, 1, 1, 5, 1);
        run.withdraw(0, true);
        run.order(1, 7, true);
        run.needs(0, 7, 0);
        run.byteOf(0, 256, false);
        run.comment(0, 5, Run.LAST, true);
        run.holds(1, true);
    }

    private static void none(Answers answers) {
        Run run = Run.withSigners(answers, 2);
        run.holds(0, false);
        run.sign(0, 1, 0, 0, 0);
        run.sign(0, 1, 1, 0, 1);
        run.holds(1, true);
        run.holds(2, false);
        run.holds(399, false);
        for (int s : Run.NO_NUMBER) {
            run.holds(s, false);
        }
    }
}
