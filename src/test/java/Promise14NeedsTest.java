/** Promise 14: needs. */
final class Promise14NeedsTest {
    public static void main(String[] args) {
        Sentences tests = new Sentences("Promise 14, needs");
        tests.sentence("A thing needs a meaning: the need's number, from 0; of one that it needs already that "
            + "one's.");
        tests.test("from 0, up to all ten", Promise14NeedsTest::number);
        tests.test("of each thing by itself", Promise14NeedsTest::ofEachThing);
        tests.test("of one that it needs already", Promise14NeedsTest::already);
        tests.test("needed already, all ten", Promise14NeedsTest::alreadyOfTen);
        tests.sentence("NONE, refused, when there is no such thing or meaning.");
        tests.test("no such thing", Promise14NeedsTest::noThing);
        tests.test("no such meaning", Promise14NeedsTest::noMeaning);
        tests.test("refused, and nothing is needed by it", Promise14NeedsTest::notNeeded);
        tests.close();
    }

    private static void number(Answers answers) {
        Run run = Run.withPersons(answers, 1);
        run.thing(0, 0);
        for (int n = 0; n < 10; n++) {
            run.needs(0, 7 * n % 10, n);
        }
    }

    private static void ofEachThing(Answers answers) {
        Run run = Run.withPersons(answers, 1);
        run.thing(0, 0);
        run.thing(0, 1);
        run.needs(0, 5, 0);
        run.needs(0, 9, 1);
        run.needs(1, 9, 0);
        run.needs(1, 0, 1);
        run.needs(1, 5, 2);
        run.needs(0, 0, 2);
    }

    private static void already(Answers answers) {
        Run run = Run.withSigners(answers, 2);
        run.needs(0, 5, 0);
        run.needs(0, 5, 0);
        run.needs(0, 0, 1);
        run.needs(0, 5, 0);
        run.needs(0, 0, 1);
        run.needs(0, 7, 2);
        run.sign(0, 1, 5, 0, 0);
        run.needs(0, 5, 0);
        run.complete(0, 2);
    }

    private static void alreadyOfTen(Answers answers) {
        Run run = Run.withPersons(answers, 1);
        run.thing(0, 0);
        for (int n = 0; n < 10; n++) {
            run.needs(0, 9 - n, n);
        }
        for (int n = 0; n < 10; n++) {
            run.needs(0, 9 - n, n);
        }
        run.complete(0, 1);
    }

    private static void noThing(Answers answers) {
        Run run = Run.withPersons(answers, 1);
        run.needs(0, 0, SignRows.NONE);
        run.thing(0, 0);
        run.thing(0, 1);
        run.needs(2, 0, SignRows.NONE);
        for (int t : Run.NO_NUMBER) {
            run.needs(t, 0, SignRows.NONE);
        }
        run.needs(1, 0, 0);
    }

    private static void noMeaning(Answers answers) {
        Run run = Run.withPersons(answers, 1);
        run.thing(0, 0);
        run.needs(0, 10, SignRows.NONE);
        run.needs(0, 32, SignRows.NONE);
        for (int m : Run.NO_NUMBER) {
            run.needs(0, m, SignRows.NONE);
        }
        run.needs(0, 9, 0);
        run.needs(0, 0, 1);
    }

    private static void notNeeded(Answers answers) {
        Run run = Run.withPersons(answers, 1);
        run.thing(0, 0);
        run.needs(0, 10, SignRows.NONE);
        run.needs(0, -1, SignRows.NONE);
        run.needs(1, 3, SignRows.NONE);
        run.complete(0, 0);
        run.needs(0, 3, 0);
        run.complete(0, 1);
    }
}
