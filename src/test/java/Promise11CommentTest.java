/** Promise 11: comments of a thing, at most 200, at seconds of the clock. */
final class Promise11CommentTest {
    private static final long LAST = Answers.LAST;

    public static void main(String[] args) {
        Answers answers = new Answers("promise 11");
        refusals(answers);
        clock(answers);
        rows(answers);
        atMostTwoHundred(answers);
        answers.close();
    }

    private static void refusals(Answers answers) {
        SignRows rows = Answers.withPersons(1);
        answers.due("comment(0, 1, 0) of no thing", rows.comment(0, 1, 0), false);
        rows.thing(0);
        answers.due("comment(-1, 1, 0)", rows.comment(-1, 1, 0), false);
        answers.due("comment(1, 1, 0)", rows.comment(1, 1, 0), false);
        answers.due("comment(MIN, 1, 0)", rows.comment(Integer.MIN_VALUE, 1, 0), false);
        answers.due("comment(0, -1, 9)", rows.comment(0, -1, 9), false);
        answers.due("comment(0, 256, 9)", rows.comment(0, 256, 9), false);
        answers.due("comment(0, MAX, 9)", rows.comment(0, Integer.MAX_VALUE, 9), false);
        answers.due("comment(0, 1, -1)", rows.comment(0, 1, -1), false);
        answers.due("comment(0, 1, LAST + 1)", rows.comment(0, 1, LAST + 1), false);
        answers.due("comment(0, 1, MIN)", rows.comment(0, 1, Long.MIN_VALUE), false);
        answers.due("digest(0, 32)", rows.digest(0, 32), SignRows.NONE);
        answers.due("comment(0, 0, 0)", rows.comment(0, 0, 0), true);
        answers.due("comment(0, 255, LAST)", rows.comment(0, 255, LAST), true);
        answers.due("digest(0, 32)", rows.digest(0, 32), 0);
        answers.due("digest(0, 33)", rows.digest(0, 33), 255);
        answers.due("digest(0, 34)", rows.digest(0, 34), SignRows.NONE);
    }

    private static void clock(Answers answers) {
        SignRows rows = Answers.withSigners(2);
        answers.due("refused at 90", rows.comment(0, 256, 90), false);
        answers.due("comment at 10", rows.comment(0, 1, 10), true);
        answers.due("comment at 9", rows.comment(0, 1, 9), false);
        answers.due("comment at 10 again", rows.comment(0, 1, 10), true);
        answers.due("sign at 9", Answers.sign(rows, 0, 1, 0, 9), SignRows.LATE);
        answers.due("sign at 30", Answers.sign(rows, 0, 1, 0, 30), 0);
        answers.due("comment at 29", rows.comment(0, 1, 29), false);
        answers.due("comment at 30", rows.comment(0, 1, 30), true);
        answers.due("holds(0)", rows.holds(0), true);
    }

    private static void rows(Answers answers) {
        SignRows rows = Answers.withPersons(1);
        rows.thing(0);
        rows.thing(0);
        rows.comment(0, 5, 0);
        rows.comment(1, 6, 0);
        rows.comment(0, 7, 0);
        answers.due("digest(0, 32)", rows.digest(0, 32), 5);
        answers.due("digest(0, 33)", rows.digest(0, 33), 7);
        answers.due("digest(1, 32)", rows.digest(1, 32), 6);
        answers.due("digest(1, 33)", rows.digest(1, 33), SignRows.NONE);
        Digests.due(answers, rows, 0, new byte[0]);
    }

    private static void atMostTwoHundred(Answers answers) {
        SignRows rows = Answers.withPersons(1);
        rows.thing(0);
        rows.thing(0);
        for (int i = 0; i < 200; i++) {
            answers.due("comment " + i, rows.comment(0, 255 - i, i), true);
        }
        answers.due("comment 200", rows.comment(0, 1, 500), false);
        answers.due("the clock has not moved", rows.comment(1, 1, 199), true);
        answers.due("comment 0 of thing 1", rows.digest(1, 32), 1);
        answers.due("comment 199", rows.digest(0, 231), 56);
        answers.due("comment 200", rows.digest(0, 232), SignRows.NONE);
    }
}
