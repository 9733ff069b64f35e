/** Promise 2: person. */
final class Promise02PersonTest {
    public static void main(String[] args) {
        Sentences tests = new Sentences("Promise 2, person");
        tests.sentence("A person: its number; FULL.");
        tests.test("its number", Promise02PersonTest::number);
        tests.test("FULL", Promise02PersonTest::full);
        tests.test("FULL, and nobody has come", Promise02PersonTest::nobodyWhenFull);
        tests.close();
    }

    private static void number(Answers answers) {
        Run run = new Run(answers);
        for (int p = 0; p < 24; p++) {
            run.thing(p, SignRows.NONE);
            run.person(p);
            run.role(p, 0, 0, 0, true);
        }
    }

    private static void full(Answers answers) {
        Run run = Run.withPersons(answers, 23);
        run.person(23);
        run.person(SignRows.FULL);
        run.person(SignRows.FULL);
    }

    private static void nobodyWhenFull(Answers answers) {
        Run run = Run.withPersons(answers, 24);
        run.person(SignRows.FULL);
        run.role(24, 0, 0, 0, false);
        run.thing(24, SignRows.NONE);
        run.role(23, 0, 0, 0, true);
        run.thing(23, 0);
        run.sign(0, 24, 0, 0, SignRows.NONE);
    }
}
