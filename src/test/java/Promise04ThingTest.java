/** Promise 4: thing. */
final class Promise04ThingTest {
    public static void main(String[] args) {
        Sentences tests = new Sentences("Promise 4, thing");
        tests.sentence("A thing without bytes, made by a person: its number.");
        tests.test("its number", Promise04ThingTest::number);
        tests.test("without bytes", Promise04ThingTest::withoutBytes);
        tests.test("made by a person", Promise04ThingTest::madeByPerson);
        tests.sentence("NONE, refused, when there is no such person; FULL.");
        tests.test("no such person", Promise04ThingTest::noPerson);
        tests.test("NONE, and no thing has come", Promise04ThingTest::nothingWhenRefused);
        tests.test("FULL", Promise04ThingTest::full);
        tests.test("FULL, and no thing has come", Promise04ThingTest::nothingWhenFull);
        tests.test("NONE before FULL", Promise04ThingTest::noneFirst);
        tests.close();
    }

    private static void number(Answers answers) {
        Run run = Run.withPersons(answers, 24);
        for (int t = 0; t < 16; t++) {
            run.byteOf(t, 1, false);
            run.thing(23 - t % 3, t);
            run.byteOf(t, 1, true);
        }
    }

    private static void withoutBytes(Answers answers) {
        Run run = Run.withPersons(answers, 1);
        run.thing(0, 0);
        run.byteOf(0, 1, true);
        run.comment(0, 1, 0, true);
        run.needs(0, 1, 0);
        run.thing(0, 1);
        run.digestOf(1);
        run.digest(1, 32, SignRows.NONE);
        run.complete(1, 0);
    }

    private static void madeByPerson(Answers answers) {
        Run run = Run.withPersons(answers, 3);
        for (int p = 0; p < 3; p++) {
            run.role(p, 0, 0, 9, true);
        }
        run.thing(2, 0);
        run.thing(0, 1);
        run.sign(0, 2, 0, 0, SignRows.MAKER);
        run.sign(1, 0, 0, 0, SignRows.MAKER);
        run.sign(0, 0, 0, 0, 0);
        run.sign(0, 1, 0, 0, 1);
        run.sign(1, 2, 0, 0, 2);
    }

    private static void noPerson(Answers answers) {
        Run run = Run.withPersons(answers, 2);
        run.thing(2, SignRows.NONE);
        for (int p : Run.NO_NUMBER) {
            run.thing(p, SignRows.NONE);
        }
        run.thing(1, 0);
    }

    private static void nothingWhenRefused(Answers answers) {
        Run run = Run.withPersons(answers, 1);
        for (int i = 0; i < 20; i++) {
            run.thing(1, SignRows.NONE);
        }
        run.complete(0, SignRows.NONE);
        run.thing(0, 0);
        run.complete(0, 0);
        run.complete(1, SignRows.NONE);
    }

    private static void full(Answers answers) {
        Run run = Run.withPersons(answers, 2);
        for (int t = 0; t < 15; t++) {
            run.thing(0, t);
        }
        run.thing(1, 15);
        run.thing(1, SignRows.FULL);
        run.thing(0, SignRows.FULL);
    }

    private static void nothingWhenFull(Answers answers) {
        Run run = Run.withPersons(answers, 2);
        for (int t = 0; t < 16; t++) {
            run.thing(0, t);
        }
        run.byteOf(15, 3, true);
        run.thing(1, SignRows.FULL);
        run.digestOf(15, (byte) 3);
        run.complete(16, SignRows.NONE);
        run.byteOf(16, 3, false);
        run.role(0, 0, 0, 9, true);
        run.sign(15, 0, 0, 0, SignRows.MAKER);
    }

    private static void noneFirst(Answers answers) {
        Run run = Run.withPersons(answers, 1);
        for (int t = 0; t < 16; t++) {
            run.thing(0, t);
        }
        run.thing(1, SignRows.NONE);
        run.thing(-1, SignRows.NONE);
        run.thing(0, SignRows.FULL);
    }
}
