/** Promise 13: listed. */
final class Promise13ListedTest {
    public static void main(String[] args) {
        Sentences tests = new Sentences("Promise 13, listed");
        tests.sentence("Signature number k, from 0, of those that are withdrawn, in the order in which they "
            + "were withdrawn.");
        tests.test("from 0", Promise13ListedTest::fromZero);
        tests.test("not those whose thing was changed", Promise13ListedTest::notChanged);
        tests.test("also behind a later signature of the same", Promise13ListedTest::signedAnew);
        tests.test("in the order of withdrawing", Promise13ListedTest::inOrder);
        tests.sentence("NONE.");
        tests.test("before any is withdrawn", Promise13ListedTest::noneAtFirst);
        tests.test("behind the last", Promise13ListedTest::behindLast);
        tests.test("below 0", Promise13ListedTest::below);
        tests.close();
    }

    private static void fromZero(Answers answers) {
        Run run = withFour(answers);
        run.withdraw(2, true);
        run.listed(0, 2);
        run.withdraw(3, true);
        run.listed(0, 2);
        run.listed(1, 3);
    }

    private static void notChanged(Answers answers) {
        Run run = withFour(answers);
        run.byteOf(0, 1, true);
        run.holds(0, false);
        run.listed(0, SignRows.NONE);
        run.withdraw(1, true);
        run.listed(0, 1);
        run.listed(1, SignRows.NONE);
    }

    private static void signedAnew(Answers answers) {
        Run run = withFour(answers);
        run.withdraw(1, true);
        run.sign(0, 1, 1, 0, 4);
        run.holds(4, true);
        run.listed(0, 1);
        run.withdraw(4, true);
        run.listed(0, 1);
        run.listed(1, 4);
    }

    private static void inOrder(Answers answers) {
        Run run = withFour(answers);
        run.withdraw(3, true);
        run.withdraw(0, true);
        run.withdraw(3, false);
        run.withdraw(9, false);
        run.withdraw(2, true);
        run.withdraw(1, true);
        run.listed(0, 3);
        run.listed(1, 0);
        run.listed(2, 2);
        run.listed(3, 1);
    }

    private static void noneAtFirst(Answers answers) {
        Run run = withFour(answers);
        run.listed(0, SignRows.NONE);
        run.withdraw(4, false);
        run.listed(0, SignRows.NONE);
        run.withdraw(0, true);
        run.listed(0, 0);
    }

    private static void behindLast(Answers answers) {
        Run run = withFour(answers);
        run.withdraw(3, true);
        run.withdraw(2, true);
        run.listed(1, 2);
        int[] none = {2, 3, 4, 399, 400, 401, 1 << 8, 1 << 16, Integer.MAX_VALUE};
        for (int k : none) {
            run.listed(k, SignRows.NONE);
        }
    }

    private static void below(Answers answers) {
        Run run = withFour(answers);
        run.listed(-1, SignRows.NONE);
        run.withdraw(3, true);
        int[] none = {-1, -2, -256, -(1 << 16), Integer.MIN_VALUE};
        for (int k : none) {
            run.listed(k, SignRows.NONE);
        }
        run.listed(0, 3);
    }

    /** Signatures 0 .. 3 on thing 0, of person 1, each with the meaning of its number. */
    private static Run withFour(Answers answers) {
        Run run = Run.withSigners(answers, 2);
        for (int s = 0; s < 4; s++) {
            run.sign(0, 1, s, 0, s);
        }
        return run;
    }
}
