/** Promise 4: things of makers, numbered from 0, at most 16, each without bytes at first. */
final class Promise04ThingTest {
    public static void main(String[] args) {
        Answers answers = new Answers("promise 4");
        SignRows rows = Answers.withPersons(2);
        answers.due("thing(2)", rows.thing(2), SignRows.NONE);
        answers.due("thing(-1)", rows.thing(-1), SignRows.NONE);
        answers.due("thing(MIN)", rows.thing(Integer.MIN_VALUE), SignRows.NONE);
        answers.due("thing(MAX)", rows.thing(Integer.MAX_VALUE), SignRows.NONE);
        for (int t = 0; t < 16; t++) {
            answers.due("thing " + t, rows.thing(t % 2), t);
        }
        answers.due("thing(0) number 17", rows.thing(0), SignRows.FULL);
        answers.due("thing(2) when full", rows.thing(2), SignRows.NONE);
        answers.due("byteOf(15, 0)", rows.byteOf(15, 0), true);
        answers.due("byteOf(16, 0)", rows.byteOf(16, 0), false);
        answers.due("digest(14, 0)", rows.digest(14, 0), 227);
        answers.due("digest(14, 31)", rows.digest(14, 31), 85);
        answers.due("digest(14, 32)", rows.digest(14, 32), SignRows.NONE);
        answers.due("complete(14)", rows.complete(14), 0);
        makersApart(answers);
        answers.close();
    }

    private static void makersApart(Answers answers) {
        SignRows rows = Answers.withPersons(2);
        rows.thing(0);
        rows.thing(1);
        rows.role(0, 0, 0, 9);
        rows.role(1, 0, 0, 9);
        answers.due("sign(0, 0, 0, 0)", Answers.sign(rows, 0, 0, 0, 0), SignRows.MAKER);
        answers.due("sign(1, 1, 0, 0)", Answers.sign(rows, 1, 1, 0, 0), SignRows.MAKER);
        answers.due("sign(0, 1, 0, 0)", Answers.sign(rows, 0, 1, 0, 0), 0);
        answers.due("sign(1, 0, 0, 0)", Answers.sign(rows, 1, 0, 0, 0), 1);
    }
}
