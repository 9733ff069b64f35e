/** Promise 6: where several refusals of sign are so at once, the first of them is answered. */
final class Promise06FirstThatIsSoTest {
    public static void main(String[] args) {
        Sentences tests = new Sentences("Promise 6, sign");
        tests.sentence("Refused, the first that is so: NONE (no such thing, person or meaning), LATE, then "
            + "thrown: the person does not hold the role at that second; MAKER, ORDER (some meaning "
            + "that was told to come before, directly, has no signature on the thing that holds), "
            + "TWICE, FULL.");
        tests.test("NONE before LATE", Promise06FirstThatIsSoTest::noneBeforeLate);
        tests.test("NONE before the throw", Promise06FirstThatIsSoTest::noneBeforeThrow);
        tests.test("NONE before MAKER", Promise06FirstThatIsSoTest::noneBeforeMaker);
        tests.test("NONE before FULL", Promise06FirstThatIsSoTest::noneBeforeFull);
        tests.test("LATE before the throw", Promise06FirstThatIsSoTest::lateBeforeThrow);
        tests.test("LATE before MAKER, ORDER and TWICE", Promise06FirstThatIsSoTest::lateBeforeOthers);
        tests.test("LATE before FULL", Promise06FirstThatIsSoTest::lateBeforeFull);
        tests.test("the throw before MAKER", Promise06FirstThatIsSoTest::throwBeforeMaker);
        tests.test("the throw before ORDER", Promise06FirstThatIsSoTest::throwBeforeOrder);
        tests.test("the throw before TWICE", Promise06FirstThatIsSoTest::throwBeforeTwice);
        tests.test("the throw before FULL", Promise06FirstThatIsSoTest::throwBeforeFull);
        tests.test("MAKER before ORDER", Promise06FirstThatIsSoTest::makerBeforeOrder);
        tests.test("MAKER before FULL", Promise06FirstThatIsSoTest::makerBeforeFull);
        tests.test("ORDER before TWICE", Promise06FirstThatIsSoTest::orderBeforeTwice);
        tests.test("ORDER before FULL", Promise06FirstThatIsSoTest::orderBeforeFull);
        tests.test("TWICE before FULL", Promise06FirstThatIsSoTest::twiceBeforeFull);
        tests.close();
    }

    private static void noneBeforeLate(Answers answers) {
        Run run = Run.withSigners(answers, 2);
        run.sign(1, 1, 0, -1, SignRows.NONE);
        run.sign(0, 2, 0, -1, SignRows.NONE);
        run.sign(0, 1, 10, -1, SignRows.NONE);
        run.sign(1, 2, 10, Run.LAST + 1, SignRows.NONE);
        run.comment(0, 1, 5, true);
        run.sign(0, 1, 10, 4, SignRows.NONE);
    }

    private static void noneBeforeThrow(Answers answers) {
        Run run = Run.withPersons(answers, 2);
        run.sign(0, 1, 0, 0, SignRows.NONE);
        run.thing(0, 0);
        run.sign(1, 1, 0, 0, SignRows.NONE);
        run.sign(0, 2, 0, 0, SignRows.NONE);
        run.sign(0, 1, 10, 0, SignRows.NONE);
        run.sign(0, 1, 9, 0, Run.THROWN);
    }

    private static void noneBeforeMaker(Answers answers) {
        Run run = Run.withPersons(answers, 1);
        run.thing(0, 0);
        run.sign(0, 0, 10, 0, SignRows.NONE);
        run.sign(0, 0, -1, 0, SignRows.NONE);
    }

    private static void noneBeforeFull(Answers answers) {
        Run run = full(answers);
        run.sign(8, 1, 0, 0, SignRows.NONE);
        run.sign(0, 6, 0, 0, SignRows.NONE);
        run.sign(0, 1, 10, 0, SignRows.NONE);
    }

    private static void lateBeforeThrow(Answers answers) {
        Run run = Run.withPersons(answers, 2);
        run.thing(0, 0);
        run.comment(0, 1, 5, true);
        run.sign(0, 1, 0, 4, SignRows.LATE);
        run.sign(0, 1, 0, Run.LAST + 1, SignRows.LATE);
        run.sign(0, 1, 0, 5, Run.THROWN);
    }

    private static void lateBeforeOthers(Answers answers) {
        Run run = Run.withSigners(answers, 2);
        run.role(0, 0, 0, 9, true);
        run.order(1, 2, true);
        run.sign(0, 1, 0, 5, 0);
        run.sign(0, 0, 0, 4, SignRows.LATE);
        run.sign(0, 1, 1, 4, SignRows.LATE);
        run.sign(0, 1, 0, 4, SignRows.LATE);
    }

    private static void lateBeforeFull(Answers answers) {
        Run run = full(answers);
        run.thing(0, 8);
        run.sign(8, 1, 0, -1, SignRows.LATE);
        run.sign(8, 1, 0, Run.LAST + 1, SignRows.LATE);
    }

    private static void throwBeforeMaker(Answers answers) {
        Run run = Run.withPersons(answers, 1);
        run.thing(0, 0);
        run.role(0, 0, 5, 9, true);
        run.sign(0, 0, 0, 4, Run.THROWN);
        run.sign(0, 0, 1, 5, Run.THROWN);
        run.sign(0, 0, 0, 5, SignRows.MAKER);
    }

    private static void throwBeforeOrder(Answers answers) {
        Run run = Run.withPersons(answers, 2);
        run.thing(0, 0);
        run.role(1, 1, 5, 9, true);
        run.order(1, 2, true);
        run.sign(0, 1, 1, 4, Run.THROWN);
        run.sign(0, 1, 1, 5, SignRows.ORDER);
    }

    private static void throwBeforeTwice(Answers answers) {
        Run run = Run.withPersons(answers, 2);
        run.thing(0, 0);
        run.role(1, 1, 5, 9, true);
        run.sign(0, 1, 1, 5, 0);
        run.sign(0, 1, 1, 10, Run.THROWN);
        run.sign(0, 1, 1, 9, SignRows.TWICE);
    }

    private static void throwBeforeFull(Answers answers) {
        Run run = full(answers);
        run.thing(1, 8);
        run.sign(8, 0, 0, 0, Run.THROWN);
    }

    private static void makerBeforeOrder(Answers answers) {
        Run run = Run.withPersons(answers, 1);
        run.thing(0, 0);
        run.role(0, 1, 0, 9, true);
        run.order(1, 2, true);
        run.sign(0, 0, 1, 0, SignRows.MAKER);
    }

    private static void makerBeforeFull(Answers answers) {
        Run run = full(answers);
        run.role(0, 0, 0, 9, true);
        run.sign(0, 0, 0, 0, SignRows.MAKER);
    }

    private static void orderBeforeTwice(Answers answers) {
        Run run = Run.withSigners(answers, 2);
        run.sign(0, 1, 1, 0, 0);
        run.order(1, 2, true);
        run.holds(0, true);
        run.sign(0, 1, 1, 0, SignRows.ORDER);
        run.sign(0, 1, 2, 0, 1);
        run.sign(0, 1, 1, 0, SignRows.TWICE);
    }

    private static void orderBeforeFull(Answers answers) {
        Run run = full(answers);
        run.thing(0, 8);
        run.order(1, 2, true);
        run.sign(8, 1, 1, 0, SignRows.ORDER);
        run.sign(8, 1, 2, 0, SignRows.FULL);
    }

    private static void twiceBeforeFull(Answers answers) {
        Run run = full(answers);
        run.sign(0, 1, 0, 0, SignRows.TWICE);
        run.sign(7, 5, 9, 0, SignRows.TWICE);
    }

    private static Run full(Answers answers) {
        Run run = Run.withSigners(answers, 6);
        Fill.signatures(run);
        return run;
    }
}
