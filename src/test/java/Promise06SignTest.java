/** Promise 6: signatures, numbered from 0, and the refusals in their order. */
final class Promise06SignTest {
    private static final long LAST = Answers.LAST;

    public static void main(String[] args) {
        Answers answers = new Answers("promise 6");
        none(answers);
        late(answers);
        role(answers);
        maker(answers);
        order(answers);
        orderOnTheThing(answers);
        twice(answers);
        full(answers);
        firstThatIsSo(answers);
        nothingChanges(answers);
        answers.close();
    }

    private static void none(Answers answers) {
        SignRows rows = Answers.withSigners(2);
        int[] noThing = {-1, 1, 16, Integer.MIN_VALUE, Integer.MAX_VALUE};
        for (int thing : noThing) {
            answers.due("sign thing " + thing, Answers.sign(rows, thing, 1, 0, 0), SignRows.NONE);
        }
        int[] noPerson = {-1, 2, 24, Integer.MIN_VALUE, Integer.MAX_VALUE};
        for (int person : noPerson) {
            answers.due("sign person " + person, Answers.sign(rows, 0, person, 0, 0), SignRows.NONE);
        }
        int[] noMeaning = {-1, 10, 32, Integer.MIN_VALUE, Integer.MAX_VALUE};
        for (int meaning : noMeaning) {
            answers.due("sign meaning " + meaning, Answers.sign(rows, 0, 1, meaning, 0), SignRows.NONE);
        }
        answers.due("sign(0, 1, 9, 0)", Answers.sign(rows, 0, 1, 9, 0), 0);
        answers.due("sign(0, 1, 0, 0)", Answers.sign(rows, 0, 1, 0, 0), 1);
    }

    private static void late(Answers answers) {
        SignRows rows = Answers.withSigners(2);
        answers.due("sign at -1", Answers.sign(rows, 0, 1, 0, -1), SignRows.LATE);
        answers.due("sign at MIN", Answers.sign(rows, 0, 1, 0, Long.MIN_VALUE), SignRows.LATE);
        answers.due("sign at LAST + 1", Answers.sign(rows, 0, 1, 0, LAST + 1), SignRows.LATE);
        answers.due("sign at MAX", Answers.sign(rows, 0, 1, 0, Long.MAX_VALUE), SignRows.LATE);
        answers.due("sign at 0", Answers.sign(rows, 0, 1, 0, 0), 0);
        answers.due("sign at 50", Answers.sign(rows, 0, 1, 1, 50), 1);
        answers.due("sign at 49", Answers.sign(rows, 0, 1, 2, 49), SignRows.LATE);
        answers.due("sign at 50 again", Answers.sign(rows, 0, 1, 2, 50), 2);
        answers.due("comment at 60", rows.comment(0, 1, 60), true);
        answers.due("sign at 59", Answers.sign(rows, 0, 1, 3, 59), SignRows.LATE);
        answers.due("sign at 60", Answers.sign(rows, 0, 1, 3, 60), 3);
        answers.due("sign at LAST", Answers.sign(rows, 0, 1, 4, LAST), 4);
        answers.due("sign at LAST - 1", Answers.sign(rows, 0, 1, 5, LAST - 1), SignRows.LATE);
        answers.due("sign at LAST again", Answers.sign(rows, 0, 1, 5, LAST), 5);
    }

    private static void role(Answers answers) {
        SignRows rows = Answers.withPersons(3);
        rows.thing(0);
        rows.role(1, 0, 5, 10);
        answers.due("another role", Answers.sign(rows, 0, 1, 1, 5), Answers.THROWN);
        answers.due("another person", Answers.sign(rows, 0, 2, 0, 5), Answers.THROWN);
        answers.due("before the role", Answers.sign(rows, 0, 1, 0, 4), Answers.THROWN);
        answers.due("behind the role", Answers.sign(rows, 0, 1, 0, 11), Answers.THROWN);
        answers.due("with the role", Answers.sign(rows, 0, 1, 0, 5), 0);
        answers.due("holds behind the role", rows.comment(0, 1, 999) && rows.holds(0), true);
    }

    private static void maker(Answers answers) {
        SignRows rows = Answers.withSigners(2);
        rows.role(0, 0, 0, 9);
        rows.thing(1);
        answers.due("the maker without the role", Answers.sign(rows, 0, 0, 1, 0), Answers.THROWN);
        answers.due("the maker with the role", Answers.sign(rows, 0, 0, 0, 0), SignRows.MAKER);
        answers.due("the maker of another thing", Answers.sign(rows, 1, 0, 0, 0), 0);
    }

    private static void order(Answers answers) {
        SignRows rows = Answers.withSigners(3);
        rows.order(2, 1);
        rows.order(1, 0);
        rows.order(2, 5);
        answers.due("2 without 1 and 5", Answers.sign(rows, 0, 1, 2, 0), SignRows.ORDER);
        answers.due("1 without 0", Answers.sign(rows, 0, 1, 1, 0), SignRows.ORDER);
        answers.due("0", Answers.sign(rows, 0, 1, 0, 0), 0);
        answers.due("2 without 1", Answers.sign(rows, 0, 1, 2, 0), SignRows.ORDER);
        answers.due("1 of another person", Answers.sign(rows, 0, 2, 1, 0), 1);
        answers.due("2 without 5", Answers.sign(rows, 0, 1, 2, 0), SignRows.ORDER);
        answers.due("5", Answers.sign(rows, 0, 1, 5, 0), 2);
        answers.due("withdraw 0", rows.withdraw(0), true);
        answers.due("2 needs 0 over 1 only", Answers.sign(rows, 0, 1, 2, 0), 3);
        answers.due("1 without 0 again", Answers.sign(rows, 0, 1, 1, 0), SignRows.ORDER);
        answers.due("withdraw 1", rows.withdraw(1), true);
        answers.due("3 holds all the same", rows.holds(3), true);
        answers.due("2 without 1 again", Answers.sign(rows, 0, 2, 2, 0), SignRows.ORDER);
    }

    private static void orderOnTheThing(Answers answers) {
        SignRows rows = Answers.withSigners(2);
        rows.thing(0);
        rows.order(1, 0);
        answers.due("0 on thing 1", Answers.sign(rows, 1, 1, 0, 0), 0);
        answers.due("1 on thing 0", Answers.sign(rows, 0, 1, 1, 0), SignRows.ORDER);
        answers.due("1 on thing 1", Answers.sign(rows, 1, 1, 1, 0), 1);
        rows.byteOf(1, 1);
        answers.due("1 on thing 1, changed", Answers.sign(rows, 1, 1, 1, 0), SignRows.ORDER);
    }

    private static void twice(Answers answers) {
        SignRows rows = Answers.withSigners(3);
        rows.thing(0);
        answers.due("first", Answers.sign(rows, 0, 1, 0, 0), 0);
        answers.due("twice", Answers.sign(rows, 0, 1, 0, 0), SignRows.TWICE);
        answers.due("twice later", Answers.sign(rows, 0, 1, 0, 1), SignRows.TWICE);
        answers.due("another meaning", Answers.sign(rows, 0, 1, 1, 0), 1);
        answers.due("another person", Answers.sign(rows, 0, 2, 0, 0), 2);
        answers.due("another thing", Answers.sign(rows, 1, 1, 0, 0), 3);
        rows.withdraw(0);
        answers.due("behind a withdrawal", Answers.sign(rows, 0, 1, 0, 0), 4);
        answers.due("twice again", Answers.sign(rows, 0, 1, 0, 0), SignRows.TWICE);
        rows.byteOf(0, 1);
        answers.due("behind a change", Answers.sign(rows, 0, 1, 0, 0), 5);
        answers.due("twice on the changed thing", Answers.sign(rows, 0, 1, 0, 0), SignRows.TWICE);
    }

    private static void full(Answers answers) {
        SignRows rows = Answers.withSigners(6);
        int number = 0;
        for (int round = 0; round < 8; round++) {
            for (int p = 1; p <= 5; p++) {
                for (int m = 0; m < 10; m++) {
                    answers.due("signature " + number, Answers.sign(rows, 0, p, m, round), number);
                    number++;
                }
            }
            if (round < 7) {
                rows.byteOf(0, round);
            }
        }
        answers.due("TWICE before FULL", Answers.sign(rows, 0, 1, 0, 8), SignRows.TWICE);
        rows.withdraw(399);
        answers.due("FULL", Answers.sign(rows, 0, 5, 9, 8), SignRows.FULL);
        rows.order(9, 8);
        rows.byteOf(0, 1);
        answers.due("ORDER before FULL", Answers.sign(rows, 0, 5, 9, 8), SignRows.ORDER);
        answers.due("FULL at 9", Answers.sign(rows, 0, 1, 0, 9), SignRows.FULL);
        answers.due("the clock has not moved", rows.comment(0, 1, 7), true);
        answers.due("holds(400)", rows.holds(400), false);
    }

    private static void firstThatIsSo(Answers answers) {
        SignRows rows = Answers.withPersons(2);
        rows.thing(0);
        rows.role(0, 1, 0, 100);
        rows.role(1, 0, 0, 100);
        rows.role(1, 1, 0, 100);
        answers.due("0", Answers.sign(rows, 0, 1, 0, 10), 0);
        answers.due("1", Answers.sign(rows, 0, 1, 1, 10), 1);
        rows.order(1, 2);
        answers.due("NONE before LATE", Answers.sign(rows, 0, 2, 1, 9), SignRows.NONE);
        answers.due("NONE before LATE", Answers.sign(rows, 0, 1, 10, -1), SignRows.NONE);
        answers.due("LATE before the throw", Answers.sign(rows, 0, 1, 5, 9), SignRows.LATE);
        answers.due("LATE before MAKER", Answers.sign(rows, 0, 0, 1, 9), SignRows.LATE);
        answers.due("the throw before MAKER", Answers.sign(rows, 0, 0, 1, 101), Answers.THROWN);
        answers.due("the throw before ORDER", Answers.sign(rows, 0, 1, 1, 101), Answers.THROWN);
        answers.due("MAKER before ORDER", Answers.sign(rows, 0, 0, 1, 10), SignRows.MAKER);
        answers.due("ORDER before TWICE", Answers.sign(rows, 0, 1, 1, 10), SignRows.ORDER);
        answers.due("TWICE", Answers.sign(rows, 0, 1, 0, 10), SignRows.TWICE);
    }

    private static void nothingChanges(Answers answers) {
        SignRows rows = Answers.withPersons(2);
        rows.thing(0);
        rows.role(0, 0, 0, 1000);
        rows.role(1, 0, 0, 1000);
        rows.role(1, 1, 0, 1000);
        rows.order(1, 2);
        answers.due("taken at 5", Answers.sign(rows, 0, 1, 0, 5), 0);
        answers.due("thrown", Answers.sign(rows, 0, 1, 0, 2000), Answers.THROWN);
        answers.due("MAKER", Answers.sign(rows, 0, 0, 0, 900), SignRows.MAKER);
        answers.due("ORDER", Answers.sign(rows, 0, 1, 1, 900), SignRows.ORDER);
        answers.due("TWICE", Answers.sign(rows, 0, 1, 0, 900), SignRows.TWICE);
        answers.due("LATE", Answers.sign(rows, 0, 1, 0, LAST + 1), SignRows.LATE);
        answers.due("holds(1)", rows.holds(1), false);
        answers.due("comment at the clock", rows.comment(0, 1, 5), true);
        rows.withdraw(0);
        answers.due("the next number", Answers.sign(rows, 0, 1, 0, 5), 1);
    }
}
