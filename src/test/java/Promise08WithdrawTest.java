/** Promise 8: withdraw. */
final class Promise08WithdrawTest {
    public static void main(String[] args) {
        Sentences tests = new Sentences("Promise 8, withdraw");
        tests.sentence("A signature is withdrawn: true.");
        tests.test("one that holds", Promise08WithdrawTest::withdrawn);
        tests.test("one that holds no more", Promise08WithdrawTest::changed);
        tests.sentence("False, refused, when there is none, or it is withdrawn already.");
        tests.test("there is none", Promise08WithdrawTest::none);
        tests.test("withdrawn already", Promise08WithdrawTest::already);
        tests.test("refused, and nothing is listed by it", Promise08WithdrawTest::notListed);
        tests.close();
    }

    private static void withdrawn(Answers answers) {
        Run run = Run.withSigners(answers, 2);
        run.sign(0, 1, 0, 0, 0);
        run.sign(0, 1, 1, 0, 1);
        run.withdraw(1, true);
        run.holds(0, true);
        run.holds(1, false);
        run.withdraw(0, true);
        run.holds(0, false);
        run.listed(0, 1);
        run.listed(1, 0);
    }

    private static void changed(Answers answers) {
        Run run = Run.withSigners(answers, 2);
        run.sign(0, 1, 0, 0, 0);
        run.byteOf(0, 1, true);
        run.holds(0, false);
        run.withdraw(0, true);
        run.listed(0, 0);
    }

    private static void none(Answers answers) {
        Run run = Run.withSigners(answers, 2);
        run.withdraw(0, false);
        run.sign(0, 1, 0, 0, 0);
        run.sign(0, 1, 1, 0, 1);
        run.withdraw(2, false);
        run.withdraw(399, false);
        for (int s : Run.NO_NUMBER) {
            run.withdraw(s, false);
        }
        run.sign(0, 1, 2, 0, 2);
        run.holds(2, true);
        run.withdraw(2, true);
    }

    private static void already(Answers answers) {
        Run run = Run.withSigners(answers, 2);
        run.sign(0, 1, 0, 0, 0);
        run.sign(0, 1, 1, 0, 1);
        run.withdraw(0, true);
        run.withdraw(0, false);
        run.withdraw(1, true);
        run.withdraw(0, false);
        run.sign(0, 1, 0, 0, 2);
        run.withdraw(0, false);
        run.withdraw(2, true);
    }

    private static void notListed(Answers answers) {
        Run run = Run.withSigners(answers, 2);
        run.sign(0, 1, 0, 0, 0);
        run.withdraw(1, false);
        run.withdraw(-1, false);
        run.listed(0, SignRows.NONE);
        run.withdraw(0, true);
        run.withdraw(0, false);
        run.listed(0, 0);
        run.listed(1, SignRows.NONE);
    }
}
