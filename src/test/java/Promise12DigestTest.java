/** Promise 12: the bytes of a thing's SHA-256 and, behind them, its comments. */
final class Promise12DigestTest {
    public static void main(String[] args) {
        Answers answers = new Answers("promise 12");
        known(answers);
        everyLength(answers);
        none(answers);
        answers.close();
    }

    // The example of FIPS 180-4's own papers: the digest of "abc".
    private static void known(Answers answers) {
        SignRows rows = Answers.withPersons(1);
        rows.thing(0);
        rows.byteOf(0, 'a');
        rows.byteOf(0, 'b');
        rows.byteOf(0, 'c');
        String want = "ba7816bf8f01cfea414140de5dae2223b00361a396177a9cb410ff61f20015ad";
        for (int i = 0; i < 32; i++) {
            int due = Integer.parseInt(want.substring(2 * i, 2 * i + 2), 16);
            answers.due("digest(0, " + i + ") of abc", rows.digest(0, i), due);
        }
    }

    private static void everyLength(Answers answers) {
        int[] last = {0, 55, 56, 63, 64, 119, 120, 128, 300, 503, 504, 999, 1000};
        for (int length : last) {
            SignRows rows = Answers.withPersons(1);
            rows.thing(0);
            byte[] bytes = new byte[length];
            for (int i = 0; i < length; i++) {
                bytes[i] = (byte) (i * 37 + length);
                rows.byteOf(0, bytes[i] & 0xff);
            }
            Digests.due(answers, rows, 0, bytes);
        }
        SignRows grown = Answers.withPersons(1);
        grown.thing(0);
        for (int length = 0; length < 300; length++) {
            byte[] bytes = new byte[length];
            for (int i = 0; i < length; i++) {
                bytes[i] = (byte) (200 - 3 * i);
            }
            Digests.due(answers, grown, 0, bytes);
            grown.byteOf(0, (200 - 3 * length) & 0xff);
        }
    }

    private static void none(Answers answers) {
        SignRows rows = Answers.withPersons(1);
        rows.thing(0);
        rows.comment(0, 128, 0);
        answers.due("digest(0, 31)", rows.digest(0, 31), 85);
        answers.due("digest(0, 32)", rows.digest(0, 32), 128);
        int[] noByte = {-1, -32, 33, 232, 1000, Integer.MIN_VALUE, Integer.MAX_VALUE};
        for (int i : noByte) {
            answers.due("digest(0, " + i + ")", rows.digest(0, i), SignRows.NONE);
        }
        int[] noThing = {-1, 1, 16, Integer.MIN_VALUE, Integer.MAX_VALUE};
        for (int thing : noThing) {
            answers.due("digest(" + thing + ", 0)", rows.digest(thing, 0), SignRows.NONE);
            answers.due("digest(" + thing + ", 32)", rows.digest(thing, 32), SignRows.NONE);
        }
    }
}
