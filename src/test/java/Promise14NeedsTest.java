/** Promise 14: the meanings that a thing needs, numbered from 0, each once. */
final class Promise14NeedsTest {
    public static void main(String[] args) {
        Answers answers = new Answers("promise 14");
        SignRows rows = Answers.withPersons(1);
        answers.due("needs(0, 0) of no thing", rows.needs(0, 0), SignRows.NONE);
        rows.thing(0);
        rows.thing(0);
        int[] noThing = {-1, 2, 16, Integer.MIN_VALUE, Integer.MAX_VALUE};
        for (int thing : noThing) {
            answers.due("needs(" + thing + ", 0)", rows.needs(thing, 0), SignRows.NONE);
        }
        int[] noMeaning = {-1, 10, 42, Integer.MIN_VALUE, Integer.MAX_VALUE};
        for (int meaning : noMeaning) {
            answers.due("needs(0, " + meaning + ")", rows.needs(0, meaning), SignRows.NONE);
        }
        answers.due("complete(0) behind refusals", rows.complete(0), 0);
        answers.due("needs(0, 5)", rows.needs(0, 5), 0);
        answers.due("needs(0, 0)", rows.needs(0, 0), 1);
        answers.due("needs(0, 5) again", rows.needs(0, 5), 0);
        answers.due("needs(0, 9)", rows.needs(0, 9), 2);
        answers.due("needs(1, 9)", rows.needs(1, 9), 0);
        answers.due("complete(1)", rows.complete(1), 1);
        int[] rest = {1, 2, 3, 4, 6, 7, 8};
        for (int n = 0; n < rest.length; n++) {
            answers.due("needs(0, " + rest[n] + ")", rows.needs(0, rest[n]), 3 + n);
        }
        answers.due("needs(0, 9) again", rows.needs(0, 9), 2);
        answers.due("needs(0, 8) again", rows.needs(0, 8), 9);
        answers.due("needs(0, 0) again", rows.needs(0, 0), 1);
        answers.close();
    }
}
