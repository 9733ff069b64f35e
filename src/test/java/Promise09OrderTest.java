/** Promise 9: order. */
final class Promise09OrderTest {
    public static void main(String[] args) {
        Sentences tests = new Sentences("Promise 9, order");
        told(tests);
        refused(tests);
        tests.close();
    }

    private static void told(Sentences tests) {
        tests.sentence("A meaning may be signed only when another one has a signature that holds on the thing: "
            + "true.");
        tests.test("only then", Promise09OrderTest::told);
        tests.test("the meanings 0 and 9", Promise09OrderTest::outermost);
        tests.test("from then on, for all things", Promise09OrderTest::fromThenOn);
    }

    private static void refused(Sentences tests) {
        tests.sentence("False, refused, when one is none, both are one, it is told already, or after comes "
            + "behind meaning by what is told (also over others).");
        tests.test("meaning is none", Promise09OrderTest::noMeaning);
        tests.test("after is none", Promise09OrderTest::noAfter);
        tests.test("both are one", Promise09OrderTest::bothOne);
        tests.test("told already", Promise09OrderTest::already);
        tests.test("not told already when it follows over others alone", Promise09OrderTest::notAlready);
        tests.test("after comes behind meaning", Promise09OrderTest::behind);
        tests.test("also over one other", Promise09OrderTest::behindOverOne);
        tests.test("also over eight others", Promise09OrderTest::behindOverEight);
        tests.test("also when told in another order", Promise09OrderTest::behindOverJoined);
        tests.test("also over either of two ways", Promise09OrderTest::behindOverTwoWays);
        tests.test("none but these is refused", Promise09OrderTest::everyPair);
        tests.test("refused, and nothing is ordered by it", Promise09OrderTest::notOrdered);
    }

    private static void told(Answers answers) {
        Run run = Run.withSigners(answers, 2);
        run.order(1, 0, true);
        run.sign(0, 1, 1, 0, SignRows.ORDER);
        run.sign(0, 1, 0, 0, 0);
        run.sign(0, 1, 1, 0, 1);
    }

    private static void outermost(Answers answers) {
        Run first = Run.withSigners(answers, 2);
        first.order(0, 9, true);
        first.sign(0, 1, 0, 0, SignRows.ORDER);
        first.sign(0, 1, 9, 0, 0);
        Run last = Run.withSigners(answers, 2);
        last.order(9, 0, true);
        last.sign(0, 1, 9, 0, SignRows.ORDER);
        last.sign(0, 1, 0, 0, 0);
    }

    private static void fromThenOn(Answers answers) {
        Run run = Run.withSigners(answers, 3);
        run.sign(0, 1, 1, 0, 0);
        run.order(1, 0, true);
        run.holds(0, true);
        run.sign(0, 2, 1, 0, SignRows.ORDER);
        run.thing(0, 1);
        run.sign(1, 2, 1, 0, SignRows.ORDER);
    }

    private static void noMeaning(Answers answers) {
        Run run = new Run(answers);
        run.order(10, 0, false);
        run.order(32, 0, false);
        for (int m : Run.NO_NUMBER) {
            run.order(m, 0, false);
        }
        run.order(9, 0, true);
    }

    private static void noAfter(Answers answers) {
        Run run = new Run(answers);
        run.order(0, 10, false);
        run.order(0, 32, false);
        for (int m : Run.NO_NUMBER) {
            run.order(0, m, false);
        }
        run.order(0, 9, true);
    }

    private static void bothOne(Answers answers) {
        Run run = new Run(answers);
        for (int m = 0; m < 10; m++) {
            run.order(m, m, false);
        }
        run.order(10, 10, false);
        run.order(-1, -1, false);
    }

    private static void already(Answers answers) {
        Run run = new Run(answers);
        run.order(1, 0, true);
        run.order(1, 0, false);
        run.order(2, 0, true);
        run.order(2, 1, true);
        run.order(1, 0, false);
        run.order(2, 0, false);
        run.order(2, 1, false);
    }

    private static void notAlready(Answers answers) {
        Run run = new Run(answers);
        run.order(1, 0, true);
        run.order(2, 1, true);
        run.order(2, 0, true);
        run.order(2, 0, false);
    }

    private static void behind(Answers answers) {
        Run run = new Run(answers);
        run.order(1, 0, true);
        run.order(0, 1, false);
        run.order(9, 5, true);
        run.order(5, 9, false);
    }

    private static void behindOverOne(Answers answers) {
        Run run = new Run(answers);
        run.order(1, 0, true);
        run.order(2, 1, true);
        run.order(0, 2, false);
        run.order(8, 9, true);
        run.order(7, 8, true);
        run.order(9, 7, false);
    }

    private static void behindOverEight(Answers answers) {
        Run falling = new Run(answers);
        for (int m = 9; m > 0; m--) {
            falling.order(m, m - 1, true);
        }
        Run rising = new Run(answers);
        for (int m = 1; m < 10; m++) {
            rising.order(m, m - 1, true);
        }
        for (int m = 1; m < 10; m++) {
            falling.order(0, m, false);
            rising.order(0, m, false);
        }
    }

    private static void behindOverJoined(Answers answers) {
        Run run = new Run(answers);
        run.order(1, 0, true);
        run.order(4, 3, true);
        run.order(3, 2, true);
        run.order(2, 1, true);
        run.order(0, 4, false);
        run.order(0, 3, false);
        run.order(1, 4, false);
        run.order(4, 0, true);
    }

    private static void behindOverTwoWays(Answers answers) {
        Run run = new Run(answers);
        run.order(3, 1, true);
        run.order(3, 2, true);
        run.order(1, 0, true);
        run.order(2, 5, true);
        run.order(0, 3, false);
        run.order(5, 3, false);
        run.order(0, 5, true);
        run.order(5, 1, false);
        run.order(5, 0, false);
    }

    private static void everyPair(Answers answers) {
        Run rising = new Run(answers);
        Run falling = new Run(answers);
        Run growing = new Run(answers);
        for (int m = 0; m < 10; m++) {
            for (int after = 0; after < 10; after++) {
                rising.order(m, after, m < after);
                falling.order(9 - m, after, 9 - m > after);
            }
            for (int after = 0; after < m; after++) {
                growing.order(m, after, true);
                growing.order(after, m, false);
            }
        }
    }

    private static void notOrdered(Answers answers) {
        Run run = Run.withSigners(answers, 2);
        run.order(1, 0, true);
        run.order(0, 1, false);
        run.order(2, 2, false);
        run.order(3, 10, false);
        run.order(3, -1, false);
        run.order(3, 32, false);
        run.sign(0, 1, 2, 0, 0);
        run.sign(0, 1, 3, 0, 1);
        run.sign(0, 1, 0, 0, 2);
        run.sign(0, 1, 1, 0, 3);
    }
}
