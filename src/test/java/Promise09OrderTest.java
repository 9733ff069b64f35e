/** Promise 9: orders of meanings, without rings. */
final class Promise09OrderTest {
    public static void main(String[] args) {
        Answers answers = new Answers("promise 9");
        refusals(answers);
        rings(answers);
        longRing(answers);
        ringOverJoinedRows(answers);
        everyPair(answers);
        toldLater(answers);
        answers.close();
    }

    private static void refusals(Answers answers) {
        SignRows rows = new SignRows();
        int[] none = {-1, 10, 32, 42, Integer.MIN_VALUE, Integer.MAX_VALUE};
        for (int m : none) {
            answers.due("order(" + m + ", 0)", rows.order(m, 0), false);
            answers.due("order(0, " + m + ")", rows.order(0, m), false);
        }
        for (int m = 0; m < 10; m++) {
            answers.due("order(" + m + ", " + m + ")", rows.order(m, m), false);
        }
        answers.due("order(9, 0)", rows.order(9, 0), true);
        answers.due("order(9, 0) again", rows.order(9, 0), false);
    }

    private static void rings(Answers answers) {
        SignRows rows = new SignRows();
        answers.due("order(1, 0)", rows.order(1, 0), true);
        answers.due("order(0, 1)", rows.order(0, 1), false);
        answers.due("order(2, 1)", rows.order(2, 1), true);
        answers.due("order(0, 2)", rows.order(0, 2), false);
        answers.due("order(2, 0), over 1 already", rows.order(2, 0), true);
        answers.due("order(2, 0) again", rows.order(2, 0), false);
        answers.due("order(0, 3)", rows.order(0, 3), true);
        answers.due("order(3, 2)", rows.order(3, 2), false);
        answers.due("order(3, 1)", rows.order(3, 1), false);
        answers.due("order(3, 4)", rows.order(3, 4), true);
        answers.due("order(4, 2)", rows.order(4, 2), false);
        answers.due("order(5, 2)", rows.order(5, 2), true);
    }

    private static void longRing(Answers answers) {
        SignRows rows = new SignRows();
        for (int m = 9; m > 0; m--) {
            answers.due("order(" + m + ", " + (m - 1) + ")", rows.order(m, m - 1), true);
        }
        for (int m = 1; m < 10; m++) {
            answers.due("order(0, " + m + ")", rows.order(0, m), false);
        }
    }

    private static void ringOverJoinedRows(Answers answers) {
        SignRows rows = new SignRows();
        rows.order(1, 0);
        rows.order(3, 2);
        answers.due("order(2, 1) joins both", rows.order(2, 1), true);
        answers.due("order(0, 3)", rows.order(0, 3), false);
        answers.due("order(1, 3)", rows.order(1, 3), false);
        answers.due("order(3, 0)", rows.order(3, 0), true);
    }

    private static void everyPair(Answers answers) {
        SignRows rows = new SignRows();
        for (int m = 0; m < 10; m++) {
            for (int after = 0; after < 10; after++) {
                answers.due("order(" + m + ", " + after + ")", rows.order(m, after), m < after);
            }
        }
    }

    private static void toldLater(Answers answers) {
        SignRows rows = Answers.withSigners(3);
        answers.due("1 without an order", Answers.sign(rows, 0, 1, 1, 0), 0);
        answers.due("order(1, 0)", rows.order(1, 0), true);
        answers.due("holds(0) all the same", rows.holds(0), true);
        answers.due("1 without 0", Answers.sign(rows, 0, 2, 1, 0), SignRows.ORDER);
        answers.due("order(0, 1) is refused", rows.order(0, 1), false);
        answers.due("so 0 may be signed", Answers.sign(rows, 0, 2, 0, 0), 1);
        answers.due("and 1 then", Answers.sign(rows, 0, 2, 1, 0), 2);
    }
}
