/** Promise 3: role. */
final class Promise03RoleTest {
    private static final long LAST = Run.LAST;

    public static void main(String[] args) {
        Sentences tests = new Sentences("Promise 3, role");
        held(tests);
        refused(tests);
        tests.close();
    }

    private static void held(Sentences tests) {
        tests.sentence("A person holds a role from a second to another one (both with it), besides all that was "
            + "told before: true.");
        tests.test("true", Promise03RoleTest::taken);
        tests.test("from a second, with it", Promise03RoleTest::from);
        tests.test("to another one, with it", Promise03RoleTest::to);
        tests.test("of one second alone", Promise03RoleTest::oneSecond);
        tests.test("a person, a role", Promise03RoleTest::personAndRole);
        tests.test("besides all that was told before", Promise03RoleTest::besides);
    }

    private static void refused(Sentences tests) {
        tests.sentence("False, refused, when there is no such person or role, a second is out of its range, "
            + "from is above to, or 100 were told in all.");
        tests.test("no such person", Promise03RoleTest::noPerson);
        tests.test("no such role", Promise03RoleTest::noRole);
        tests.test("from below 0", Promise03RoleTest::fromBelow);
        tests.test("to above the last second", Promise03RoleTest::toAbove);
        tests.test("both out of range", Promise03RoleTest::bothOut);
        tests.test("from is above to", Promise03RoleTest::fromAboveTo);
        tests.test("100 were told in all", Promise03RoleTest::hundred);
        tests.test("refused ones are not among the 100", Promise03RoleTest::refusedNotCounted);
        tests.test("refused, and no role is held by it", Promise03RoleTest::refusedNotHeld);
    }

    private static void taken(Answers answers) {
        Run run = Run.withPersons(answers, 24);
        run.role(0, 0, 0, 0, true);
        run.role(23, 9, LAST, LAST, true);
        run.role(0, 9, 0, LAST, true);
        run.role(0, 9, 0, LAST, true);
        run.thing(0, 0);
        run.comment(0, 1, 500, true);
        run.role(1, 0, 0, 499, true);
    }

    private static void from(Answers answers) {
        Run run = Run.withPersons(answers, 2);
        run.thing(0, 0);
        run.role(1, 4, 10, 20, true);
        run.sign(0, 1, 4, 9, Run.THROWN);
        run.sign(0, 1, 4, 10, 0);
    }

    private static void to(Answers answers) {
        Run run = Run.withPersons(answers, 2);
        run.thing(0, 0);
        run.role(1, 4, 10, 20, true);
        run.sign(0, 1, 4, 21, Run.THROWN);
        run.sign(0, 1, 4, 20, 0);
    }

    private static void oneSecond(Answers answers) {
        Run run = Run.withPersons(answers, 2);
        run.thing(0, 0);
        run.role(1, 0, 0, 0, true);
        run.role(1, 1, 7, 7, true);
        run.role(1, 2, LAST, LAST, true);
        run.sign(0, 1, 0, 1, Run.THROWN);
        run.sign(0, 1, 0, 0, 0);
        run.sign(0, 1, 1, 6, Run.THROWN);
        run.sign(0, 1, 1, 8, Run.THROWN);
        run.sign(0, 1, 1, 7, 1);
        run.sign(0, 1, 2, LAST - 1, Run.THROWN);
        run.sign(0, 1, 2, LAST, 2);
    }

    private static void personAndRole(Answers answers) {
        Run run = Run.withPersons(answers, 4);
        run.thing(0, 0);
        run.role(2, 4, 0, 9, true);
        run.sign(0, 1, 4, 0, Run.THROWN);
        run.sign(0, 3, 4, 0, Run.THROWN);
        run.sign(0, 2, 3, 0, Run.THROWN);
        run.sign(0, 2, 5, 0, Run.THROWN);
        run.sign(0, 2, 4, 0, 0);
    }

    private static void besides(Answers answers) {
        Run run = Run.withPersons(answers, 2);
        run.thing(0, 0);
        run.role(1, 0, 5, 6, true);
        run.role(1, 0, 1, 2, true);
        run.role(1, 0, 9, 9, true);
        run.role(1, 1, 0, 99, true);
        run.sign(0, 1, 0, 2, 0);
        run.withdraw(0, true);
        run.sign(0, 1, 0, 3, Run.THROWN);
        run.sign(0, 1, 0, 6, 1);
        run.withdraw(1, true);
        run.sign(0, 1, 0, 8, Run.THROWN);
        run.sign(0, 1, 0, 9, 2);
    }

    private static void noPerson(Answers answers) {
        Run run = Run.withPersons(answers, 2);
        run.role(2, 0, 0, 1, false);
        for (int p : Run.NO_NUMBER) {
            run.role(p, 0, 0, 1, false);
        }
        run.role(1, 0, 0, 1, true);
    }

    private static void noRole(Answers answers) {
        Run run = Run.withPersons(answers, 2);
        run.role(1, 10, 0, 1, false);
        run.role(1, 32, 0, 1, false);
        for (int r : Run.NO_NUMBER) {
            run.role(1, r, 0, 1, false);
        }
        run.role(1, 9, 0, 1, true);
        run.role(1, 0, 0, 1, true);
    }

    private static void fromBelow(Answers answers) {
        Run run = Run.withPersons(answers, 1);
        run.role(0, 0, -1, 5, false);
        run.role(0, 0, Long.MIN_VALUE, 5, false);
        run.role(0, 0, 0, 5, true);
    }

    private static void toAbove(Answers answers) {
        Run run = Run.withPersons(answers, 1);
        run.role(0, 0, 5, LAST + 1, false);
        run.role(0, 0, 5, Long.MAX_VALUE, false);
        run.role(0, 0, 5, LAST, true);
    }

    private static void bothOut(Answers answers) {
        Run run = Run.withPersons(answers, 1);
        run.role(0, 0, -1, -1, false);
        run.role(0, 0, LAST + 1, LAST + 1, false);
        run.role(0, 0, -1, LAST + 1, false);
        run.role(0, 0, Long.MIN_VALUE, Long.MAX_VALUE, false);
    }

    private static void fromAboveTo(Answers answers) {
        Run run = Run.withPersons(answers, 1);
        run.role(0, 0, 6, 5, false);
        run.role(0, 0, 1, 0, false);
        run.role(0, 0, LAST, 0, false);
        run.role(0, 0, LAST, LAST - 1, false);
        run.role(0, 0, 5, 5, true);
        run.role(0, 0, 5, 6, true);
    }

    private static void hundred(Answers answers) {
        Run run = Run.withPersons(answers, 4);
        run.thing(0, 0);
        for (int i = 0; i < 99; i++) {
            run.role(i % 3, i % 2, i, i, true);
        }
        run.role(3, 2, 0, 9, true);
        run.role(3, 3, 0, 9, false);
        run.role(1, 4, 0, 9, false);
        run.sign(0, 3, 3, 0, Run.THROWN);
        run.sign(0, 1, 4, 0, Run.THROWN);
        run.sign(0, 3, 2, 0, 0);
    }

    private static void refusedNotCounted(Answers answers) {
        Run run = Run.withPersons(answers, 1);
        for (int i = 0; i < 100; i++) {
            run.role(0, 10, 0, 1, false);
            run.role(0, 0, 1, 0, false);
        }
        for (int i = 0; i < 100; i++) {
            run.role(0, 0, 0, 1, true);
        }
        run.role(0, 0, 0, 1, false);
    }

    private static void refusedNotHeld(Answers answers) {
        Run run = Run.withPersons(answers, 2);
        run.thing(0, 0);
        run.role(1, 0, 0, LAST + 1, false);
        run.role(1, 0, -1, 9, false);
        run.role(1, 0, 9, 0, false);
        run.role(2, 0, 0, 9, false);
        run.role(1, 10, 0, 9, false);
        run.sign(0, 1, 0, 5, Run.THROWN);
    }
}
