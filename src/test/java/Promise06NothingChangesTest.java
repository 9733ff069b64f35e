/** Promise 6: a refused call of sign changes nothing; the object is asked about everything afterwards. */
final class Promise06NothingChangesTest {
    public static void main(String[] args) {
        Sentences tests = new Sentences("Promise 6, sign");
        tests.sentence("Nothing changes then.");
        tests.test("NONE, no such thing", a -> refused(a, 1, 1, 0, 900, SignRows.NONE));
        tests.test("NONE, no such person", a -> refused(a, 0, 3, 0, 900, SignRows.NONE));
        tests.test("NONE, no such meaning", a -> refused(a, 0, 1, 10, 900, SignRows.NONE));
        tests.test("LATE, before the clock", a -> refused(a, 0, 1, 3, 9, SignRows.LATE));
        tests.test("LATE, out of its range", a -> refused(a, 0, 1, 3, Run.LAST + 1, SignRows.LATE));
        tests.test("thrown, no such role", a -> refused(a, 0, 2, 0, 900, Run.THROWN));
        tests.test("thrown, the role at other seconds", a -> refused(a, 0, 1, 3, 2000, Run.THROWN));
        tests.test("MAKER", a -> refused(a, 0, 0, 0, 900, SignRows.MAKER));
        tests.test("ORDER", a -> refused(a, 0, 1, 1, 900, SignRows.ORDER));
        tests.test("TWICE", a -> refused(a, 0, 1, 0, 900, SignRows.TWICE));
        tests.test("FULL", Promise06NothingChangesTest::full);
        tests.close();
    }

    private static void refused(Answers answers, int thing, int person, int meaning, long second, int due) {
        Run run = before(answers);
        run.sign(thing, person, meaning, second, due);
        askedAgain(run);
        goesOn(run);
        Run often = before(answers);
        for (int i = 0; i < 100; i++) {
            often.sign(thing, person, meaning, second, due);
        }
        askedAgain(often);
        goesOn(often);
    }

    /** Thing 0 with a byte, a comment and two needs; signature 0 holds, signature 1 is withdrawn; the clock is 10. */
    private static Run before(Answers answers) {
        Run run = Run.withPersons(answers, 3);
        run.thing(0, 0);
        run.role(0, 0, 0, 1000, true);
        run.role(1, 0, 0, 1000, true);
        run.role(1, 1, 0, 1000, true);
        run.role(1, 3, 0, 1000, true);
        run.order(1, 2, true);
        run.needs(0, 0, 0);
        run.needs(0, 3, 1);
        run.byteOf(0, 7, true);
        run.sign(0, 1, 0, 8, 0);
        run.sign(0, 1, 3, 9, 1);
        run.withdraw(1, true);
        run.comment(0, 5, 10, true);
        return run;
    }

    private static void askedAgain(Run run) {
        run.holds(0, true);
        run.holds(1, false);
        run.holds(2, false);
        run.withdraw(1, false);
        run.withdraw(2, false);
        run.listed(0, 1);
        run.listed(1, SignRows.NONE);
        run.digestOf(0, (byte) 7);
        run.digest(0, 32, 5);
        run.digest(0, 33, SignRows.NONE);
        run.complete(0, 2);
        run.needs(0, 3, 1);
        run.complete(1, SignRows.NONE);
    }

    // What comes next tells the clock, the next numbers, the orders and how many roles were told.
    private static void goesOn(Run run) {
        run.comment(0, 6, 9, false);
        run.comment(0, 6, 10, true);
        run.sign(0, 2, 0, 10, Run.THROWN);
        run.sign(0, 1, 1, 10, SignRows.ORDER);
        run.sign(0, 1, 0, 10, SignRows.TWICE);
        run.sign(0, 1, 3, 10, 2);
        run.complete(0, 0);
        run.order(1, 2, false);
        run.order(2, 1, false);
        run.order(0, 3, true);
        run.thing(2, 1);
        run.digestOf(1);
        run.needs(0, 4, 2);
        run.person(3);
        for (int told = 4; told < 100; told++) {
            run.role(3, 0, 0, 9, true);
        }
        run.role(3, 0, 0, 9, false);
    }

    // Few calls are left behind 400 signatures, so only the nearest is asked.
    private static void full(Answers answers) {
        Run run = Run.withSigners(answers, 6);
        Fill.signatures(run);
        run.withdraw(399, true);
        run.needs(7, 9, 0);
        run.sign(7, 5, 9, 5, SignRows.FULL);
        run.sign(7, 5, 9, 900, SignRows.FULL);
        run.comment(7, 1, 0, true);
        run.holds(399, false);
        run.holds(400, false);
        run.holds(398, true);
        run.holds(0, true);
        run.withdraw(399, false);
        run.withdraw(400, false);
        run.listed(0, 399);
        run.listed(1, SignRows.NONE);
        run.complete(7, 0);
        run.digest(7, 0, 227);
        run.digest(7, 33, SignRows.NONE);
        run.thing(0, 8);
        run.person(6);
        run.sign(7, 5, 9, 0, SignRows.FULL);
        run.sign(7, 5, 8, 0, SignRows.TWICE);
    }
}
