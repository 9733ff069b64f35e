/** Promise 1: a new object has no persons, no things and no orders; the constants are as told. */
final class Promise01NewObjectTest {
    public static void main(String[] args) {
        Answers answers = new Answers("promise 1");
        constants(answers);
        nothingThere(answers);
        noOrders(answers);
        objectsApart(answers);
        answers.close();
    }

    private static void constants(Answers answers) {
        answers.due("NONE", SignRows.NONE, -1);
        answers.due("FULL", SignRows.FULL, -2);
        answers.due("LATE", SignRows.LATE, -3);
        answers.due("MAKER", SignRows.MAKER, -4);
        answers.due("ORDER", SignRows.ORDER, -5);
        answers.due("TWICE", SignRows.TWICE, -6);
    }

    private static void nothingThere(Answers answers) {
        SignRows rows = new SignRows();
        answers.due("role(0, 0, 0, 1)", rows.role(0, 0, 0, 1), false);
        answers.due("thing(0)", rows.thing(0), SignRows.NONE);
        answers.due("byteOf(0, 1)", rows.byteOf(0, 1), false);
        answers.due("sign(0, 0, 0, 0)", Answers.sign(rows, 0, 0, 0, 0), SignRows.NONE);
        answers.due("holds(0)", rows.holds(0), false);
        answers.due("withdraw(0)", rows.withdraw(0), false);
        answers.due("complete(0)", rows.complete(0), SignRows.NONE);
        answers.due("comment(0, 1, 0)", rows.comment(0, 1, 0), false);
        answers.due("digest(0, 0)", rows.digest(0, 0), SignRows.NONE);
        answers.due("digest(0, 32)", rows.digest(0, 32), SignRows.NONE);
        answers.due("listed(0)", rows.listed(0), SignRows.NONE);
        answers.due("needs(0, 0)", rows.needs(0, 0), SignRows.NONE);
        answers.due("person()", rows.person(), 0);
        answers.due("thing(0)", rows.thing(0), 0);
        answers.due("complete(0)", rows.complete(0), 0);
    }

    private static void noOrders(Answers answers) {
        SignRows rows = Answers.withSigners(2);
        for (int m = 0; m < 10; m++) {
            answers.due("sign(0, 1, " + m + ", 0)", Answers.sign(rows, 0, 1, m, 0), m);
        }
    }

    private static void objectsApart(Answers answers) {
        SignRows one = Answers.withSigners(2);
        SignRows other = Answers.withSigners(2);
        one.byteOf(0, 7);
        one.order(1, 0);
        answers.due("sign(0, 1, 0, 9) of one", Answers.sign(one, 0, 1, 0, 9), 0);
        answers.due("holds(0) of the other", other.holds(0), false);
        answers.due("digest(0, 0) of the other", other.digest(0, 0), 227);
        answers.due("sign(0, 1, 1, 0) of the other", Answers.sign(other, 0, 1, 1, 0), 0);
        answers.due("holds(0) of one", one.holds(0), true);
    }
}
