/** Promise 7: a signature holds until it is withdrawn or its thing's digest is another one. */
final class Promise07HoldsTest {
    public static void main(String[] args) {
        Answers answers = new Answers("promise 7");
        SignRows rows = Answers.withSigners(3);
        rows.thing(0);
        answers.due("holds(0) of none", rows.holds(0), false);
        Answers.sign(rows, 0, 1, 0, 0);
        Answers.sign(rows, 1, 1, 0, 0);
        Answers.sign(rows, 0, 2, 0, 0);
        for (int s = 0; s < 3; s++) {
            answers.due("holds(" + s + ")", rows.holds(s), true);
        }
        int[] none = {-1, 3, 399, 400, Integer.MIN_VALUE, Integer.MAX_VALUE};
        for (int s : none) {
            answers.due("holds(" + s + ") of none", rows.holds(s), false);
        }
        rows.withdraw(2);
        answers.due("holds(2) withdrawn", rows.holds(2), false);
        answers.due("holds(0) besides", rows.holds(0), true);
        rows.comment(0, 5, 0);
        rows.needs(0, 7);
        rows.order(7, 8);
        rows.byteOf(0, 256);
        answers.due("holds(0) of bytes as before", rows.holds(0), true);
        rows.byteOf(0, 0);
        answers.due("holds(0) of a changed thing", rows.holds(0), false);
        answers.due("holds(1) of the other thing", rows.holds(1), true);
        Answers.sign(rows, 0, 1, 0, 0);
        answers.due("holds(3) signed anew", rows.holds(3), true);
        answers.due("holds(0) all the same", rows.holds(0), false);
        rows.byteOf(1, 9);
        answers.due("holds(1) of a changed thing", rows.holds(1), false);
        answers.due("holds(3) besides", rows.holds(3), true);
        answers.close();
    }
}
