/** Promise 13: the withdrawn signatures in the order in which they were withdrawn. */
final class Promise13ListedTest {
    public static void main(String[] args) {
        Answers answers = new Answers("promise 13");
        few(answers);
        many(answers);
        answers.close();
    }

    private static void few(Answers answers) {
        SignRows rows = Answers.withSigners(2);
        answers.due("listed(0) of none", rows.listed(0), SignRows.NONE);
        for (int m = 0; m < 4; m++) {
            Answers.sign(rows, 0, 1, m, 0);
        }
        answers.due("listed(0) before", rows.listed(0), SignRows.NONE);
        rows.withdraw(3);
        rows.withdraw(0);
        rows.withdraw(3);
        rows.withdraw(9);
        rows.withdraw(2);
        answers.due("listed(0)", rows.listed(0), 3);
        answers.due("listed(1)", rows.listed(1), 0);
        answers.due("listed(2)", rows.listed(2), 2);
        int[] none = {-1, 3, 4, 400, Integer.MIN_VALUE, Integer.MAX_VALUE};
        for (int k : none) {
            answers.due("listed(" + k + ")", rows.listed(k), SignRows.NONE);
        }
        rows.byteOf(0, 1);
        answers.due("listed(3) of changed but not withdrawn", rows.listed(3), SignRows.NONE);
    }

    // What calls behind the 512th answer is free; this test rests on their being answered alike.
    private static void many(Answers answers) {
        SignRows rows = Answers.withSigners(2);
        for (int s = 0; s < 400; s++) {
            answers.due("signature " + s, Answers.sign(rows, 0, 1, s % 10, s), s);
            if (s % 10 == 9) {
                rows.byteOf(0, s % 256);
            }
        }
        for (int s = 399; s >= 0; s--) {
            answers.due("withdraw(" + s + ")", rows.withdraw(s), true);
        }
        for (int k = 0; k < 400; k++) {
            answers.due("listed(" + k + ")", rows.listed(k), 399 - k);
        }
        answers.due("listed(400)", rows.listed(400), SignRows.NONE);
    }
}
