/** Promise 2: persons are numbered from 0, at most 24. */
final class Promise02PersonTest {
    public static void main(String[] args) {
        Answers answers = new Answers("promise 2");
        SignRows rows = new SignRows();
        for (int p = 0; p < 24; p++) {
            answers.due("person()", rows.person(), p);
        }
        answers.due("person() number 25", rows.person(), SignRows.FULL);
        answers.due("person() number 26", rows.person(), SignRows.FULL);
        answers.due("thing(23)", rows.thing(23), 0);
        answers.due("thing(24)", rows.thing(24), SignRows.NONE);
        answers.due("role(23, 0, 0, 0)", rows.role(23, 0, 0, 0), true);
        answers.due("role(24, 0, 0, 0)", rows.role(24, 0, 0, 0), false);
        answers.close();
    }
}
