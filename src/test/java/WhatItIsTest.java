/** The document's "What it is": an object is used for at most 512 calls. */
final class WhatItIsTest {
    public static void main(String[] args) {
        Sentences tests = new Sentences("What it is");
        tests.sentence("An object is used for at most 512 calls after it has been made; what later calls answer "
            + "is free.");
        tests.test("call 512 is answered, whichever it is", WhatItIsTest::lastCall);
        tests.test("as many bytes as 512 calls can bring", WhatItIsTest::manyBytes);
        tests.test("as many withdrawals as 512 calls can bring", WhatItIsTest::manyWithdrawals);
        tests.close();
    }

    private static void lastCall(Answers answers) {
        upToLast(answers).person(2);
        upToLast(answers).role(0, 0, 0, 9, true);
        upToLast(answers).thing(1, 1);
        upToLast(answers).byteOf(0, 1, true);
        upToLast(answers).sign(0, 1, 2, 5, 2);
        upToLast(answers).holds(1, true);
        upToLast(answers).withdraw(1, true);
        upToLast(answers).order(1, 0, true);
        upToLast(answers).complete(0, 1);
        upToLast(answers).comment(0, 8, 5, true);
        upToLast(answers).digest(0, 32, 7);
        upToLast(answers).listed(0, 0);
        upToLast(answers).needs(0, 9, 1);
    }

    private static Run upToLast(Answers answers) {
        Run run = Run.withSigners(answers, 2);
        run.sign(0, 1, 0, 5, 0);
        run.sign(0, 1, 1, 5, 1);
        run.withdraw(0, true);
        run.needs(0, 0, 0);
        run.comment(0, 7, 5, true);
        while (run.calls() < Run.MOST_CALLS - 1) {
            run.holds(0, false);
        }
        return run;
    }

    private static void manyBytes(Answers answers) {
        Run run = Run.withPersons(answers, 1);
        run.thing(0, 0);
        byte[] bytes = new byte[Run.MOST_CALLS - run.calls() - 32];
        for (int i = 0; i < bytes.length; i++) {
            bytes[i] = (byte) (11 * i + 5);
            run.byteOf(0, bytes[i] & 0xff, true);
        }
        run.digestOf(0, bytes);
    }

    private static void manyWithdrawals(Answers answers) {
        Run run = Run.withPersons(answers, 2);
        run.role(1, 0, 0, Run.LAST, true);
        run.thing(0, 0);
        int count = (Run.MOST_CALLS - run.calls()) / 3;
        for (int s = 0; s < count; s++) {
            run.sign(0, 1, 0, s, s);
            run.withdraw(s, true);
        }
        for (int k = 0; k < count; k++) {
            run.listed(k, k);
        }
    }
}
