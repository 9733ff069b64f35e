/** Promise 3: roles of persons from a second to another one, both with it; at most 100 told. */
final class Promise03RoleTest {
    private static final long LAST = Answers.LAST;

    public static void main(String[] args) {
        Answers answers = new Answers("promise 3");
        refusals(answers);
        spans(answers);
        spansBesides(answers);
        refusedGivesNothing(answers);
        atMostHundred(answers);
        answers.close();
    }

    private static void refusals(Answers answers) {
        SignRows rows = Answers.withPersons(2);
        answers.due("role(2, 0, 0, 1)", rows.role(2, 0, 0, 1), false);
        answers.due("role(-1, 0, 0, 1)", rows.role(-1, 0, 0, 1), false);
        answers.due("role(MAX, 0, 0, 1)", rows.role(Integer.MAX_VALUE, 0, 0, 1), false);
        answers.due("role(1, -1, 0, 1)", rows.role(1, -1, 0, 1), false);
        answers.due("role(1, 10, 0, 1)", rows.role(1, 10, 0, 1), false);
        answers.due("role(1, MIN, 0, 1)", rows.role(1, Integer.MIN_VALUE, 0, 1), false);
        answers.due("role(1, 0, -1, 1)", rows.role(1, 0, -1, 1), false);
        answers.due("role(1, 0, -2, -1)", rows.role(1, 0, -2, -1), false);
        answers.due("role(1, 0, 0, LAST + 1)", rows.role(1, 0, 0, LAST + 1), false);
        answers.due("role(1, 0, LAST + 1, LAST + 1)", rows.role(1, 0, LAST + 1, LAST + 1), false);
        answers.due("role(1, 0, MIN, MAX)", rows.role(1, 0, Long.MIN_VALUE, Long.MAX_VALUE), false);
        answers.due("role(1, 0, 6, 5)", rows.role(1, 0, 6, 5), false);
        answers.due("role(1, 0, 5, 5)", rows.role(1, 0, 5, 5), true);
        answers.due("role(1, 9, 0, LAST)", rows.role(1, 9, 0, LAST), true);
        answers.due("role(0, 9, LAST, LAST)", rows.role(0, 9, LAST, LAST), true);
        answers.due("role(0, 9, 0, 0)", rows.role(0, 9, 0, 0), true);
    }

    private static void spans(Answers answers) {
        SignRows rows = Answers.withPersons(2);
        rows.thing(0);
        rows.role(1, 4, 10, 20);
        rows.role(1, 5, LAST, LAST);
        answers.due("sign at 9", Answers.sign(rows, 0, 1, 4, 9), Answers.THROWN);
        answers.due("sign at 10", Answers.sign(rows, 0, 1, 4, 10), 0);
        answers.due("withdraw(0)", rows.withdraw(0), true);
        answers.due("sign at 20", Answers.sign(rows, 0, 1, 4, 20), 1);
        answers.due("withdraw(1)", rows.withdraw(1), true);
        answers.due("sign at 21", Answers.sign(rows, 0, 1, 4, 21), Answers.THROWN);
        answers.due("sign with 5 at LAST - 1", Answers.sign(rows, 0, 1, 5, LAST - 1), Answers.THROWN);
        answers.due("sign with 5 at LAST", Answers.sign(rows, 0, 1, 5, LAST), 2);
        answers.due("role behind the clock", rows.role(1, 6, 0, 1), true);
    }

    private static void spansBesides(Answers answers) {
        SignRows rows = Answers.withPersons(3);
        rows.thing(0);
        rows.role(1, 0, 1, 2);
        rows.role(1, 0, 5, 6);
        rows.role(1, 1, 3, 4);
        rows.role(2, 0, 3, 4);
        answers.due("sign at 2", Answers.sign(rows, 0, 1, 0, 2), 0);
        answers.due("withdraw(0)", rows.withdraw(0), true);
        answers.due("sign at 3", Answers.sign(rows, 0, 1, 0, 3), Answers.THROWN);
        answers.due("sign at 5", Answers.sign(rows, 0, 1, 0, 5), 1);
    }

    private static void refusedGivesNothing(Answers answers) {
        SignRows rows = Answers.withPersons(2);
        rows.thing(0);
        rows.role(1, 0, 0, LAST + 1);
        rows.role(1, 0, -1, 9);
        rows.role(1, 0, 9, 0);
        answers.due("sign without a role", Answers.sign(rows, 0, 1, 0, 5), Answers.THROWN);
    }

    private static void atMostHundred(Answers answers) {
        SignRows rows = Answers.withPersons(3);
        rows.thing(0);
        for (int i = 0; i < 99; i++) {
            answers.due("role " + i, rows.role(i % 2, 3, 7, 7), true);
            answers.due("refused role " + i, rows.role(i % 2, 3, 8, 7), false);
        }
        answers.due("role 99", rows.role(2, 2, 0, 9), true);
        answers.due("role 100", rows.role(2, 8, 0, 9), false);
        answers.due("role 101", rows.role(1, 0, 0, 9), false);
        answers.due("sign with role 99", Answers.sign(rows, 0, 2, 2, 0), 0);
        answers.due("sign with role 100", Answers.sign(rows, 0, 2, 8, 0), Answers.THROWN);
    }
}
