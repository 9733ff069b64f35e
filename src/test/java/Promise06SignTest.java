/** Promise 6: sign, its numbers and each of its refusals. */
final class Promise06SignTest {
    private static final long LAST = Run.LAST;

    public static void main(String[] args) {
        Sentences tests = new Sentences("Promise 6, sign");
        taken(tests);
        refused(tests);
        tests.close();
    }

    private static void taken(Sentences tests) {
        tests.sentence("A person signs a thing with a meaning at a second: the signature's number.");
        tests.test("its number", Promise06SignTest::number);
    }

    private static void refused(Sentences tests) {
        tests.sentence("Refused, the first that is so: NONE (no such thing, person or meaning), LATE, then "
            + "thrown: the person does not hold the role at that second; MAKER, ORDER (some meaning "
            + "that was told to come before, directly, has no signature on the thing that holds), "
            + "TWICE, FULL.");
        tests.test("NONE, no such thing", Promise06SignTest::noThing);
        tests.test("NONE, no such person", Promise06SignTest::noPerson);
        tests.test("NONE, no such meaning", Promise06SignTest::noMeaning);
        tests.test("LATE, before the clock", Promise06SignTest::lateBefore);
        tests.test("LATE, out of its range", Promise06SignTest::lateOut);
        tests.test("thrown, another role", Promise06SignTest::anotherRole);
        tests.test("thrown, another person's role", Promise06SignTest::anotherPersonsRole);
        tests.test("thrown, not at that second", Promise06SignTest::anotherSecond);
        tests.test("MAKER", Promise06SignTest::maker);
        tests.test("ORDER, some meaning", Promise06SignTest::orderOfSeveral);
        tests.test("ORDER, to come before, not behind", Promise06SignTest::orderOneWay);
        tests.test("ORDER, directly", Promise06SignTest::orderDirectly);
        tests.test("ORDER, a signature of whatever person", Promise06SignTest::orderOfAnyPerson);
        tests.test("ORDER, on the thing", Promise06SignTest::orderOnThing);
        tests.test("ORDER, that holds, not withdrawn", Promise06SignTest::orderWithdrawn);
        tests.test("ORDER, that holds, the thing not changed", Promise06SignTest::orderChanged);
        tests.test("ORDER, the meanings 0 and 9", Promise06SignTest::orderOfOutermost);
        tests.test("TWICE", Promise06SignTest::twice);
        tests.test("TWICE, of the person", Promise06SignTest::twiceOfPerson);
        tests.test("TWICE, with the meaning", Promise06SignTest::twiceWithMeaning);
        tests.test("TWICE, on the thing", Promise06SignTest::twiceOnThing);
        tests.test("TWICE, not behind a withdrawal", Promise06SignTest::twiceWithdrawn);
        tests.test("TWICE, not behind a change", Promise06SignTest::twiceChanged);
        tests.test("FULL", Promise06SignTest::full);
        tests.test("FULL, withdrawn and changed ones count", Promise06SignTest::fullOfEnded);
    }

    private static void number(Answers answers) {
        Run run = Run.withSigners(answers, 3);
        run.thing(2, 1);
        run.sign(0, 1, 0, 0, 0);
        run.sign(1, 1, 9, 0, 1);
        run.sign(0, 1, 0, 0, SignRows.TWICE);
        run.sign(0, 2, 5, 3, 2);
        run.withdraw(1, true);
        run.sign(1, 1, 9, LAST, 3);
        for (int s = 0; s < 4; s++) {
            run.holds(s, s != 1);
        }
    }

    private static void noThing(Answers answers) {
        Run run = Run.withSigners(answers, 2);
        run.thing(0, 1);
        run.sign(2, 1, 0, 0, SignRows.NONE);
        for (int t : Run.NO_NUMBER) {
            run.sign(t, 1, 0, 0, SignRows.NONE);
        }
        run.sign(1, 1, 0, 0, 0);
    }

    private static void noPerson(Answers answers) {
        Run run = Run.withSigners(answers, 3);
        run.sign(0, 3, 0, 0, SignRows.NONE);
        for (int p : Run.NO_NUMBER) {
            run.sign(0, p, 0, 0, SignRows.NONE);
        }
        run.sign(0, 2, 0, 0, 0);
    }

    private static void noMeaning(Answers answers) {
        Run run = Run.withSigners(answers, 2);
        run.sign(0, 1, 10, 0, SignRows.NONE);
        run.sign(0, 1, 32, 0, SignRows.NONE);
        for (int m : Run.NO_NUMBER) {
            run.sign(0, 1, m, 0, SignRows.NONE);
        }
        run.sign(0, 1, 9, 0, 0);
        run.sign(0, 1, 0, 0, 1);
    }

    private static void lateBefore(Answers answers) {
        Run run = Run.withSigners(answers, 2);
        run.sign(0, 1, 0, 50, 0);
        run.sign(0, 1, 1, 49, SignRows.LATE);
        run.sign(0, 1, 1, 0, SignRows.LATE);
        run.sign(0, 1, 1, 50, 1);
        run.comment(0, 1, 60, true);
        run.sign(0, 1, 2, 59, SignRows.LATE);
        run.sign(0, 1, 2, LAST, 2);
        run.sign(0, 1, 3, LAST - 1, SignRows.LATE);
        run.sign(0, 1, 3, LAST, 3);
    }

    private static void lateOut(Answers answers) {
        Run run = Run.withSigners(answers, 2);
        run.sign(0, 1, 0, -1, SignRows.LATE);
        run.sign(0, 1, 0, LAST + 1, SignRows.LATE);
        run.sign(0, 1, 0, Long.MIN_VALUE, SignRows.LATE);
        run.sign(0, 1, 0, Long.MAX_VALUE, SignRows.LATE);
        run.sign(0, 1, 0, 0, 0);
        run.sign(0, 1, 1, LAST, 1);
        run.sign(0, 1, 2, LAST + 1, SignRows.LATE);
    }

    private static void anotherRole(Answers answers) {
        Run run = Run.withPersons(answers, 2);
        run.thing(0, 0);
        run.sign(0, 1, 4, 5, Run.THROWN);
        run.role(1, 4, 0, 9, true);
        run.sign(0, 1, 3, 5, Run.THROWN);
        run.sign(0, 1, 5, 5, Run.THROWN);
        run.sign(0, 1, 4, 5, 0);
    }

    private static void anotherPersonsRole(Answers answers) {
        Run run = Run.withPersons(answers, 3);
        run.thing(0, 0);
        run.role(2, 4, 0, 9, true);
        run.sign(0, 1, 4, 5, Run.THROWN);
        run.sign(0, 2, 4, 5, 0);
    }

    private static void anotherSecond(Answers answers) {
        Run run = Run.withPersons(answers, 2);
        run.thing(0, 0);
        run.role(1, 4, 5, 10, true);
        run.sign(0, 1, 4, 4, Run.THROWN);
        run.sign(0, 1, 4, 11, Run.THROWN);
        run.sign(0, 1, 4, 5, 0);
        run.withdraw(0, true);
        run.sign(0, 1, 4, 10, 1);
    }

    private static void maker(Answers answers) {
        Run run = Run.withSigners(answers, 3);
        run.role(0, 0, 0, 9, true);
        run.thing(1, 1);
        run.sign(0, 0, 0, 0, SignRows.MAKER);
        run.sign(1, 1, 0, 0, SignRows.MAKER);
        run.sign(0, 1, 0, 0, 0);
        run.sign(1, 0, 0, 0, 1);
        run.sign(1, 2, 0, 0, 2);
    }

    private static void orderOfSeveral(Answers answers) {
        Run run = Run.withSigners(answers, 2);
        run.order(2, 1, true);
        run.order(2, 5, true);
        run.order(2, 9, true);
        run.sign(0, 1, 2, 0, SignRows.ORDER);
        run.sign(0, 1, 9, 0, 0);
        run.sign(0, 1, 1, 0, 1);
        run.sign(0, 1, 2, 0, SignRows.ORDER);
        run.sign(0, 1, 5, 0, 2);
        run.withdraw(1, true);
        run.sign(0, 1, 2, 0, SignRows.ORDER);
        run.sign(0, 1, 1, 0, 3);
        run.sign(0, 1, 2, 0, 4);
    }

    private static void orderOneWay(Answers answers) {
        Run run = Run.withSigners(answers, 2);
        run.order(2, 1, true);
        run.sign(0, 1, 1, 0, 0);
        run.sign(0, 1, 3, 0, 1);
        run.sign(0, 1, 2, 0, 2);
    }

    private static void orderDirectly(Answers answers) {
        Run run = Run.withSigners(answers, 2);
        run.order(2, 1, true);
        run.order(1, 0, true);
        run.sign(0, 1, 0, 0, 0);
        run.sign(0, 1, 2, 0, SignRows.ORDER);
        run.sign(0, 1, 1, 0, 1);
        run.withdraw(0, true);
        run.sign(0, 1, 2, 0, 2);
        run.withdraw(1, true);
        run.sign(0, 1, 1, 0, SignRows.ORDER);
    }

    private static void orderOfAnyPerson(Answers answers) {
        Run run = Run.withSigners(answers, 3);
        run.order(1, 0, true);
        run.sign(0, 2, 0, 0, 0);
        run.sign(0, 1, 1, 0, 1);
        run.sign(0, 2, 1, 0, 2);
    }

    private static void orderOnThing(Answers answers) {
        Run run = Run.withSigners(answers, 2);
        run.thing(0, 1);
        run.order(1, 0, true);
        run.sign(1, 1, 0, 0, 0);
        run.sign(0, 1, 1, 0, SignRows.ORDER);
        run.sign(1, 1, 1, 0, 1);
    }

    private static void orderWithdrawn(Answers answers) {
        Run run = Run.withSigners(answers, 3);
        run.order(1, 0, true);
        run.sign(0, 1, 0, 0, 0);
        run.withdraw(0, true);
        run.sign(0, 1, 1, 0, SignRows.ORDER);
        run.sign(0, 1, 0, 0, 1);
        run.sign(0, 2, 0, 0, 2);
        run.withdraw(1, true);
        run.sign(0, 1, 1, 0, 3);
    }

    private static void orderChanged(Answers answers) {
        Run run = Run.withSigners(answers, 2);
        run.order(1, 0, true);
        run.sign(0, 1, 0, 0, 0);
        run.byteOf(0, 0, true);
        run.sign(0, 1, 1, 0, SignRows.ORDER);
        run.sign(0, 1, 0, 0, 1);
        run.sign(0, 1, 1, 0, 2);
    }

    private static void orderOfOutermost(Answers answers) {
        Run first = Run.withSigners(answers, 2);
        first.order(9, 0, true);
        first.sign(0, 1, 9, 0, SignRows.ORDER);
        first.sign(0, 1, 0, 0, 0);
        first.sign(0, 1, 9, 0, 1);
        Run last = Run.withSigners(answers, 2);
        last.order(0, 9, true);
        last.sign(0, 1, 0, 0, SignRows.ORDER);
        last.sign(0, 1, 9, 0, 0);
        last.sign(0, 1, 0, 0, 1);
    }

    private static void twice(Answers answers) {
        Run run = Run.withSigners(answers, 2);
        run.sign(0, 1, 0, 0, 0);
        run.sign(0, 1, 0, 0, SignRows.TWICE);
        run.sign(0, 1, 0, LAST, SignRows.TWICE);
    }

    private static void twiceOfPerson(Answers answers) {
        Run run = Run.withSigners(answers, 3);
        run.sign(0, 1, 0, 0, 0);
        run.sign(0, 2, 0, 0, 1);
        run.sign(0, 1, 0, 0, SignRows.TWICE);
        run.sign(0, 2, 0, 0, SignRows.TWICE);
    }

    private static void twiceWithMeaning(Answers answers) {
        Run run = Run.withSigners(answers, 2);
        run.sign(0, 1, 0, 0, 0);
        run.sign(0, 1, 9, 0, 1);
        run.sign(0, 1, 0, 0, SignRows.TWICE);
        run.sign(0, 1, 9, 0, SignRows.TWICE);
    }

    // The document's words name no thing here; they are read as those for ORDER are.
    private static void twiceOnThing(Answers answers) {
        Run run = Run.withSigners(answers, 2);
        run.thing(0, 1);
        run.sign(0, 1, 0, 0, 0);
        run.sign(1, 1, 0, 0, 1);
        run.sign(1, 1, 0, 0, SignRows.TWICE);
    }

    private static void twiceWithdrawn(Answers answers) {
        Run run = Run.withSigners(answers, 2);
        run.sign(0, 1, 0, 0, 0);
        run.withdraw(0, true);
        run.sign(0, 1, 0, 0, 1);
        run.sign(0, 1, 0, 0, SignRows.TWICE);
    }

    private static void twiceChanged(Answers answers) {
        Run run = Run.withSigners(answers, 2);
        run.sign(0, 1, 0, 0, 0);
        run.comment(0, 1, 0, true);
        run.sign(0, 1, 0, 0, SignRows.TWICE);
        run.byteOf(0, 1, true);
        run.sign(0, 1, 0, 0, 1);
        run.sign(0, 1, 0, 0, SignRows.TWICE);
    }

    private static void full(Answers answers) {
        Run run = Run.withSigners(answers, 6);
        Fill.signatures(run);
        run.thing(0, 8);
        run.sign(8, 1, 0, 0, SignRows.FULL);
        run.sign(8, 5, 9, 0, SignRows.FULL);
    }

    private static void fullOfEnded(Answers answers) {
        Run run = Run.withSigners(answers, 6);
        Fill.signatures(run);
        run.withdraw(399, true);
        run.sign(7, 5, 9, 0, SignRows.FULL);
        run.byteOf(0, 1, true);
        run.sign(0, 1, 0, 0, SignRows.FULL);
    }
}
