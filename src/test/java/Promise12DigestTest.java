/** Promise 12: digest. */
final class Promise12DigestTest {
    public static void main(String[] args) {
        Sentences tests = new Sentences("Promise 12, digest");
        tests.sentence("Byte i of the digest of a thing (i 0 .. 31), or unit i - 32 of its comments.");
        tests.test("i 0 .. 31", Promise12DigestTest::everyByte);
        tests.test("asked between changes", Promise12DigestTest::betweenChanges);
        tests.test("the first and the last unit", Promise12DigestTest::units);
        tests.test("every unit", Promise12DigestTest::everyUnit);
        tests.sentence("NONE when there is none.");
        tests.test("i below 0", Promise12DigestTest::below);
        tests.test("behind the comments", Promise12DigestTest::behindComments);
        tests.test("no such thing", Promise12DigestTest::noThing);
        tests.close();
    }

    private static void everyByte(Answers answers) {
        Run run = Run.withPersons(answers, 1);
        run.thing(0, 0);
        run.byteOf(0, 'a', true);
        run.digestOf(0, (byte) 'a');
        run.digest(0, 0, 0xca);
        run.digest(0, 31, 0xbb);
    }

    private static void betweenChanges(Answers answers) {
        Run run = Run.withPersons(answers, 1);
        run.thing(0, 0);
        run.thing(0, 1);
        run.digestOf(0);
        run.byteOf(0, 1, true);
        run.digestOf(0, (byte) 1);
        run.digestOf(1);
        run.byteOf(1, 2, true);
        run.byteOf(0, 3, true);
        run.digestOf(1, (byte) 2);
        run.digestOf(0, (byte) 1, (byte) 3);
        run.byteOf(0, 256, false);
        run.digestOf(1, (byte) 2);
        run.digestOf(0, (byte) 1, (byte) 3);
    }

    private static void units(Answers answers) {
        Run run = Run.withPersons(answers, 1);
        run.thing(0, 0);
        run.digest(0, 32, SignRows.NONE);
        for (int i = 0; i < 200; i++) {
            run.comment(0, i, 0, true);
            run.digest(0, 32 + i, i);
        }
        run.digest(0, 32, 0);
        run.digest(0, 33, 1);
        run.digest(0, 231, 199);
        run.digest(0, 31, 0x55);
    }

    private static void everyUnit(Answers answers) {
        Run run = Run.withPersons(answers, 1);
        run.thing(0, 0);
        run.thing(0, 1);
        for (int u = 0; u < 256; u++) {
            run.comment(u / 128, u, 0, true);
        }
        for (int u = 56; u < 256; u++) {
            run.digest(u / 128, 32 + u % 128, u);
        }
    }

    private static void below(Answers answers) {
        Run run = Run.withPersons(answers, 1);
        run.thing(0, 0);
        run.byteOf(0, 1, true);
        run.comment(0, 7, 0, true);
        int[] none = {-1, -2, -31, -32, -256, Integer.MIN_VALUE, Integer.MIN_VALUE + 1, Integer.MIN_VALUE + 32};
        for (int i : none) {
            run.digest(0, i, SignRows.NONE);
        }
    }

    private static void behindComments(Answers answers) {
        Run run = Run.withPersons(answers, 1);
        run.thing(0, 0);
        run.digest(0, 32, SignRows.NONE);
        run.comment(0, 7, 0, true);
        run.comment(0, 8, 0, true);
        run.digest(0, 33, 8);
        int[] none = {34, 35, 231, 232, 256, 288, 1000, 65568, Integer.MAX_VALUE};
        for (int i : none) {
            run.digest(0, i, SignRows.NONE);
        }
        for (int u = 2; u < 200; u++) {
            run.comment(0, u, 0, true);
        }
        run.digest(0, 231, 199);
        run.digest(0, 232, SignRows.NONE);
    }

    private static void noThing(Answers answers) {
        Run run = Run.withPersons(answers, 1);
        run.digest(0, 0, SignRows.NONE);
        run.thing(0, 0);
        run.comment(0, 7, 0, true);
        run.digest(1, 0, SignRows.NONE);
        run.digest(1, 32, SignRows.NONE);
        for (int t : Run.NO_NUMBER) {
            run.digest(t, 0, SignRows.NONE);
            run.digest(t, 32, SignRows.NONE);
        }
        run.digest(0, 32, 7);
    }
}
