/** Promise 10: what a thing lacks of what it needs. */
final class Promise10CompleteTest {
    public static void main(String[] args) {
        Answers answers = new Answers("promise 10");
        noThing(answers);
        firstLack(answers);
        allNeeds(answers);
        answers.close();
    }

    private static void noThing(Answers answers) {
        SignRows rows = Answers.withPersons(1);
        answers.due("complete(0)", rows.complete(0), SignRows.NONE);
        rows.thing(0);
        int[] none = {-1, 1, 16, Integer.MIN_VALUE, Integer.MAX_VALUE};
        for (int thing : none) {
            answers.due("complete(" + thing + ")", rows.complete(thing), SignRows.NONE);
        }
        answers.due("complete(0) without needs", rows.complete(0), 0);
    }

    private static void firstLack(Answers answers) {
        SignRows rows = Answers.withSigners(3);
        rows.thing(0);
        rows.needs(0, 7);
        rows.needs(0, 2);
        rows.needs(0, 5);
        answers.due("lacks 7", rows.complete(0), 1);
        Answers.sign(rows, 0, 1, 2, 0);
        answers.due("lacks 7 first", rows.complete(0), 1);
        Answers.sign(rows, 1, 1, 7, 0);
        answers.due("7 on the other thing", rows.complete(0), 1);
        answers.due("the other thing", rows.complete(1), 0);
        Answers.sign(rows, 0, 1, 7, 0);
        answers.due("lacks 5", rows.complete(0), 3);
        Answers.sign(rows, 0, 2, 5, 0);
        answers.due("lacks nothing", rows.complete(0), 0);
        Answers.sign(rows, 0, 2, 2, 0);
        rows.withdraw(0);
        answers.due("2 of another person", rows.complete(0), 0);
        rows.withdraw(4);
        answers.due("lacks 2", rows.complete(0), 2);
        rows.comment(0, 1, 0);
        answers.due("lacks 2 behind a comment", rows.complete(0), 2);
        rows.byteOf(0, 1);
        answers.due("all anew", rows.complete(0), 1);
    }

    private static void allNeeds(Answers answers) {
        SignRows rows = Answers.withSigners(2);
        for (int m = 9; m >= 0; m--) {
            rows.needs(0, m);
        }
        for (int n = 0; n < 10; n++) {
            answers.due("lacks need " + n, rows.complete(0), 1 + n);
            Answers.sign(rows, 0, 1, 9 - n, 0);
        }
        answers.due("lacks nothing", rows.complete(0), 0);
    }
}
