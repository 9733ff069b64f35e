/** Promise 5: byteOf. */
final class Promise05ByteOfTest {
    public static void main(String[] args) {
        Sentences tests = new Sentences("Promise 5, byteOf");
        tests.sentence("A byte (0 .. 255) comes behind those of a thing: true.");
        tests.test("0 .. 255", Promise05ByteOfTest::everyByte);
        tests.test("behind those", Promise05ByteOfTest::behind);
        tests.test("of a thing, not of others", Promise05ByteOfTest::ofOneThing);
        tests.sentence("False, refused, when there is no such thing, for another one, or when there are 1,000.");
        tests.test("no such thing", Promise05ByteOfTest::noThing);
        tests.test("for another one", Promise05ByteOfTest::anotherByte);
        tests.test("refused, and the thing is as it was", Promise05ByteOfTest::sameWhenRefused);
        tests.test("there are 1,000", Promise05ByteOfTest::thousand);
        tests.test("1,000 of one thing", Promise05ByteOfTest::thousandOfOneThing);
        tests.close();
    }

    private static void everyByte(Answers answers) {
        Run run = Run.withPersons(answers, 1);
        run.thing(0, 0);
        byte[] bytes = new byte[256];
        for (int b = 0; b < 256; b++) {
            bytes[b] = (byte) b;
            run.byteOf(0, b, true);
        }
        run.digestOf(0, bytes);
    }

    private static void behind(Answers answers) {
        Run run = Run.withPersons(answers, 1);
        run.thing(0, 0);
        run.byteOf(0, 1, true);
        run.digestOf(0, (byte) 1);
        run.byteOf(0, 255, true);
        run.digestOf(0, (byte) 1, (byte) 255);
        run.byteOf(0, 0, true);
        run.digestOf(0, (byte) 1, (byte) 255, (byte) 0);
    }

    private static void ofOneThing(Answers answers) {
        Run run = Run.withPersons(answers, 1);
        run.thing(0, 0);
        run.thing(0, 1);
        run.thing(0, 2);
        run.byteOf(0, 1, true);
        run.byteOf(2, 9, true);
        run.byteOf(0, 2, true);
        run.digestOf(0, (byte) 1, (byte) 2);
        run.digestOf(1);
        run.digestOf(2, (byte) 9);
    }

    private static void noThing(Answers answers) {
        Run run = Run.withPersons(answers, 1);
        run.byteOf(0, 1, false);
        run.thing(0, 0);
        run.thing(0, 1);
        run.byteOf(2, 1, false);
        for (int t : Run.NO_NUMBER) {
            run.byteOf(t, 1, false);
        }
        run.byteOf(1, 1, true);
    }

    private static void anotherByte(Answers answers) {
        Run run = Run.withPersons(answers, 1);
        run.thing(0, 0);
        int[] others = {-1, 256, -128, -255, -256, 511, 512, 65536, Integer.MIN_VALUE, Integer.MAX_VALUE};
        for (int b : others) {
            run.byteOf(0, b, false);
        }
        run.byteOf(0, 255, true);
        run.byteOf(0, 0, true);
    }

    private static void sameWhenRefused(Answers answers) {
        Run run = Run.withSigners(answers, 2);
        run.byteOf(0, 5, true);
        run.sign(0, 1, 0, 0, 0);
        run.byteOf(0, 256, false);
        run.byteOf(0, -1, false);
        run.byteOf(1, 5, false);
        run.holds(0, true);
        run.digestOf(0, (byte) 5);
    }

    // What calls behind the 512th answer is free; no shorter run can bring so many bytes.
    private static void thousand(Answers answers) {
        Run run = Run.beyondPromise(answers);
        run.person(0);
        run.thing(0, 0);
        byte[] bytes = thousandBytes(run);
        run.byteOf(0, 1, false);
        run.byteOf(0, 0, false);
        run.digestOf(0, bytes);
    }

    private static void thousandOfOneThing(Answers answers) {
        Run run = Run.beyondPromise(answers);
        run.person(0);
        run.thing(0, 0);
        run.thing(0, 1);
        thousandBytes(run);
        run.byteOf(0, 1, false);
        run.byteOf(1, 1, true);
        run.digestOf(1, (byte) 1);
    }

    private static byte[] thousandBytes(Run run) {
        byte[] bytes = new byte[1000];
        for (int i = 0; i < bytes.length; i++) {
            bytes[i] = (byte) (7 * i + 3);
            run.byteOf(0, bytes[i] & 0xff, true);
        }
        return bytes;
    }
}
