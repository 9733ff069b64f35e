/** Promise 5: bytes 0 .. 255 come behind those of a thing, at most 1,000. */
final class Promise05ByteOfTest {
    public static void main(String[] args) {
        Answers answers = new Answers("promise 5");
        refusals(answers);
        order(answers);
        atMostThousand(answers);
        answers.close();
    }

    private static void refusals(Answers answers) {
        SignRows rows = Answers.withPersons(1);
        answers.due("byteOf(0, 1) of no thing", rows.byteOf(0, 1), false);
        rows.thing(0);
        rows.thing(0);
        answers.due("byteOf(-1, 1)", rows.byteOf(-1, 1), false);
        answers.due("byteOf(2, 1)", rows.byteOf(2, 1), false);
        answers.due("byteOf(MAX, 1)", rows.byteOf(Integer.MAX_VALUE, 1), false);
        answers.due("byteOf(0, -1)", rows.byteOf(0, -1), false);
        answers.due("byteOf(0, 256)", rows.byteOf(0, 256), false);
        answers.due("byteOf(0, MIN)", rows.byteOf(0, Integer.MIN_VALUE), false);
        Digests.due(answers, rows, 0, new byte[0]);
        answers.due("byteOf(0, 0)", rows.byteOf(0, 0), true);
        answers.due("byteOf(0, 255)", rows.byteOf(0, 255), true);
        Digests.due(answers, rows, 0, new byte[] {0, (byte) 255});
        Digests.due(answers, rows, 1, new byte[0]);
    }

    private static void order(Answers answers) {
        SignRows rows = Answers.withPersons(1);
        rows.thing(0);
        rows.thing(0);
        rows.byteOf(0, 1);
        rows.byteOf(1, 9);
        rows.byteOf(0, 128);
        rows.byteOf(0, 3);
        Digests.due(answers, rows, 0, new byte[] {1, (byte) 128, 3});
        Digests.due(answers, rows, 1, new byte[] {9});
    }

    // What calls behind the 512th answer is free; this test rests on their being answered alike.
    private static void atMostThousand(Answers answers) {
        SignRows rows = Answers.withPersons(1);
        rows.thing(0);
        byte[] bytes = new byte[1000];
        for (int i = 0; i < 1000; i++) {
            bytes[i] = (byte) (i * 7 + 3);
            answers.due("byte " + i, rows.byteOf(0, bytes[i] & 0xff), true);
        }
        answers.due("byte 1000", rows.byteOf(0, 1), false);
        answers.due("byte 1001", rows.byteOf(0, 1), false);
        Digests.due(answers, rows, 0, bytes);
    }
}
