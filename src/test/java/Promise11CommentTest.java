/** Promise 11: comment. */
final class Promise11CommentTest {
    private static final long LAST = Run.LAST;

    public static void main(String[] args) {
        Sentences tests = new Sentences("Promise 11, comment");
        taken(tests);
        refused(tests);
        tests.close();
    }

    private static void taken(Sentences tests) {
        tests.sentence("A unit comes behind the comments of a thing at a second: true.");
        tests.test("behind the comments", Promise11CommentTest::behind);
        tests.test("of a thing, not of others", Promise11CommentTest::ofOneThing);
        tests.test("at a second", Promise11CommentTest::atSecond);
    }

    private static void refused(Sentences tests) {
        tests.sentence("False, refused, when there is no such thing, the unit is not 0 .. 255, the second "
            + "before the clock or out of its range, or there are 200.");
        tests.test("no such thing", Promise11CommentTest::noThing);
        tests.test("the unit is not 0 .. 255", Promise11CommentTest::noUnit);
        tests.test("before the clock", Promise11CommentTest::beforeClock);
        tests.test("below the range", Promise11CommentTest::belowRange);
        tests.test("above the range", Promise11CommentTest::aboveRange);
        tests.test("there are 200", Promise11CommentTest::twoHundred);
        tests.test("200 of one thing", Promise11CommentTest::twoHundredOfOneThing);
        tests.test("refused, and the comments are as they were", Promise11CommentTest::sameComments);
        tests.test("refused, and the clock is as it was", Promise11CommentTest::sameClock);
    }

    private static void behind(Answers answers) {
        Run run = Run.withPersons(answers, 1);
        run.thing(0, 0);
        run.comment(0, 255, 0, true);
        run.comment(0, 0, 0, true);
        run.comment(0, 128, 0, true);
        run.digest(0, 32, 255);
        run.digest(0, 33, 0);
        run.digest(0, 34, 128);
    }

    private static void ofOneThing(Answers answers) {
        Run run = Run.withPersons(answers, 1);
        run.thing(0, 0);
        run.thing(0, 1);
        run.comment(0, 5, 0, true);
        run.comment(1, 6, 0, true);
        run.comment(0, 7, 0, true);
        run.digest(0, 32, 5);
        run.digest(0, 33, 7);
        run.digest(1, 32, 6);
        run.digest(1, 33, SignRows.NONE);
    }

    private static void atSecond(Answers answers) {
        Run run = Run.withSigners(answers, 2);
        run.comment(0, 1, 30, true);
        run.sign(0, 1, 0, 29, SignRows.LATE);
        run.sign(0, 1, 0, 30, 0);
    }

    private static void noThing(Answers answers) {
        Run run = Run.withPersons(answers, 1);
        run.comment(0, 1, 0, false);
        run.thing(0, 0);
        run.thing(0, 1);
        run.comment(2, 1, 0, false);
        for (int t : Run.NO_NUMBER) {
            run.comment(t, 1, 0, false);
        }
        run.comment(1, 1, 0, true);
    }

    private static void noUnit(Answers answers) {
        Run run = Run.withPersons(answers, 1);
        run.thing(0, 0);
        int[] others = {-1, 256, -128, -255, -256, 511, 512, 65536, Integer.MIN_VALUE, Integer.MAX_VALUE};
        for (int u : others) {
            run.comment(0, u, 0, false);
        }
        run.comment(0, 0, 0, true);
        run.comment(0, 255, 0, true);
    }

    private static void beforeClock(Answers answers) {
        Run run = Run.withSigners(answers, 2);
        run.comment(0, 1, 10, true);
        run.comment(0, 1, 9, false);
        run.comment(0, 1, 0, false);
        run.comment(0, 1, 10, true);
        run.sign(0, 1, 0, 20, 0);
        run.comment(0, 1, 19, false);
        run.comment(0, 1, LAST, true);
        run.comment(0, 1, LAST - 1, false);
        run.comment(0, 1, LAST, true);
    }

    private static void belowRange(Answers answers) {
        Run run = Run.withPersons(answers, 1);
        run.thing(0, 0);
        run.comment(0, 1, -1, false);
        run.comment(0, 1, Long.MIN_VALUE, false);
        run.comment(0, 1, 0, true);
    }

    private static void aboveRange(Answers answers) {
        Run run = Run.withPersons(answers, 1);
        run.thing(0, 0);
        run.comment(0, 1, LAST + 1, false);
        run.comment(0, 1, Long.MAX_VALUE, false);
        run.comment(0, 1, LAST, true);
        run.comment(0, 1, LAST + 1, false);
    }

    private static void twoHundred(Answers answers) {
        Run run = Run.withPersons(answers, 1);
        run.thing(0, 0);
        for (int i = 0; i < 200; i++) {
            run.comment(0, 255 - i, i, true);
        }
        run.comment(0, 1, 200, false);
        run.comment(0, 1, 199, false);
        for (int i = 0; i < 200; i++) {
            run.digest(0, 32 + i, 255 - i);
        }
        run.digest(0, 232, SignRows.NONE);
    }

    private static void twoHundredOfOneThing(Answers answers) {
        Run run = Run.withPersons(answers, 1);
        run.thing(0, 0);
        run.thing(0, 1);
        for (int i = 0; i < 200; i++) {
            run.comment(0, 1, 0, true);
            run.comment(1, 2, 0, true);
        }
        run.comment(0, 1, 0, false);
        run.comment(1, 2, 0, false);
        run.thing(0, 2);
        run.comment(2, 3, 0, true);
        run.digest(2, 32, 3);
    }

    private static void sameComments(Answers answers) {
        Run run = Run.withPersons(answers, 1);
        run.thing(0, 0);
        run.comment(0, 7, 5, true);
        run.comment(0, 256, 5, false);
        run.comment(0, 8, 4, false);
        run.comment(0, 8, LAST + 1, false);
        run.comment(1, 8, 5, false);
        run.digest(0, 32, 7);
        run.digest(0, 33, SignRows.NONE);
        run.comment(0, 9, 5, true);
        run.digest(0, 33, 9);
    }

    private static void sameClock(Answers answers) {
        Run run = Run.withPersons(answers, 1);
        run.thing(0, 0);
        for (int i = 0; i < 200; i++) {
            run.comment(0, 1, 0, true);
        }
        run.comment(0, 1, 90, false);
        run.thing(0, 1);
        run.comment(1, 256, 80, false);
        run.comment(2, 1, 70, false);
        run.comment(1, 1, LAST + 1, false);
        run.comment(1, 1, 0, true);
    }
}
