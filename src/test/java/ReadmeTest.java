/** The example of README.md, line by line: it answers what README.md tells. */
final class ReadmeTest {
    public static void main(String[] args) {
        Answers answers = new Answers("README.md");
        SignRows rows = new SignRows();
        int author = rows.person();
        int checker = rows.person();
        int thing = rows.thing(author);
        rows.byteOf(thing, 'a');
        rows.role(checker, 3, 0, 1_000);
        rows.needs(thing, 3);
        answers.due("rows.complete(thing), needed and not signed", rows.complete(thing), 1);
        int s = rows.sign(thing, checker, 3, 5);
        answers.due("rows.complete(thing), signed", rows.complete(thing), 0);
        rows.byteOf(thing, 'b');
        answers.due("rows.holds(s), the thing changed", rows.holds(s), false);
        answers.close();
    }
}
