/** Promise 8: a signature is withdrawn once. */
final class Promise08WithdrawTest {
    public static void main(String[] args) {
        Answers answers = new Answers("promise 8");
        SignRows rows = Answers.withSigners(2);
        answers.due("withdraw(0) of none", rows.withdraw(0), false);
        Answers.sign(rows, 0, 1, 0, 0);
        Answers.sign(rows, 0, 1, 1, 0);
        int[] none = {-1, 2, 400, Integer.MIN_VALUE, Integer.MAX_VALUE};
        for (int s : none) {
            answers.due("withdraw(" + s + ") of none", rows.withdraw(s), false);
        }
        answers.due("withdraw(1)", rows.withdraw(1), true);
        answers.due("withdraw(1) again", rows.withdraw(1), false);
        answers.due("holds(1)", rows.holds(1), false);
        answers.due("holds(0)", rows.holds(0), true);
        rows.byteOf(0, 1);
        answers.due("withdraw(0) of a changed thing", rows.withdraw(0), true);
        answers.due("withdraw(0) again", rows.withdraw(0), false);
        answers.due("listed(0)", rows.listed(0), 1);
        answers.due("listed(1)", rows.listed(1), 0);
        answers.due("the number behind", Answers.sign(rows, 0, 1, 0, 0), 2);
        answers.due("withdraw(2)", rows.withdraw(2), true);
        answers.close();
    }
}
