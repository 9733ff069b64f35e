/** The document's "Terms": limits, ranges, the clock, the digest, and when a signature holds. */
final class TermsTest {
    private static final long LAST = Run.LAST;

    public static void main(String[] args) {
        Sentences tests = new Sentences("Terms");
        limits(tests);
        ranges(tests);
        clock(tests);
        digests(tests);
        comments(tests);
        constants(tests);
        tests.close();
    }

    private static void limits(Sentences tests) {
        tests.sentence("PERSONS are numbered from 0, at most 24; THINGS from 0, at most 16, each made by a "
            + "person, with at most 1,000 BYTES; SIGNATURES from 0, at most 400.");
        tests.test("persons from 0, at most 24", TermsTest::persons);
        tests.test("things from 0, at most 16", TermsTest::things);
        tests.test("each made by a person", TermsTest::makers);
        tests.test("at most 1,000 bytes", TermsTest::bytes);
        tests.test("signatures from 0, at most 400", TermsTest::signatures);
    }

    private static void ranges(Sentences tests) {
        tests.sentence("ROLES and MEANINGS are 0 .. 9: to sign with a meaning a person must hold the role of "
            + "that number then.");
        tests.test("roles are 0 .. 9", TermsTest::roleNumbers);
        tests.test("meanings are 0 .. 9", TermsTest::meaningNumbers);
        tests.test("the role of that number", TermsTest::roleOfThatNumber);
        tests.test("then", TermsTest::roleThen);
        tests.sentence("Seconds are 0 .. 1,000,000,000,000.");
        tests.test("from 0", TermsTest::firstSecond);
        tests.test("to 1,000,000,000,000", TermsTest::lastSecond);
        tests.test("none is bent to an int", TermsTest::greatSeconds);
    }

    private static void clock(Sentences tests) {
        tests.sentence("THE CLOCK is the greatest second of a signature or comment that was taken, 0 at first.");
        tests.test("0 at first", TermsTest::clockAtFirst);
        tests.test("of a signature", TermsTest::clockOfSignature);
        tests.test("of a comment", TermsTest::clockOfComment);
        tests.test("of any thing", TermsTest::clockOfAnyThing);
        tests.test("that was taken", TermsTest::clockOfTaken);
    }

    private static void digests(Sentences tests) {
        tests.sentence("THE DIGEST of a thing are the 32 bytes that FIPS 180-4's SHA-256 gives for its bytes.");
        tests.test("of no bytes", TermsTest::digestOfNone);
        tests.test("of abc", TermsTest::digestOfAbc);
        tests.test("of every length up to three blocks", TermsTest::digestOfLengths);
        tests.test("of bytes that are all 0, all 255", TermsTest::digestOfExtremes);
        tests.sentence("A signature HOLDS when it was not withdrawn and the digest of the thing is what it was "
            + "when it was made.");
        tests.test("it was not withdrawn", TermsTest::holdsNotWithdrawn);
        tests.test("the digest is what it was", TermsTest::holdsWithDigest);
    }

    private static void comments(Sentences tests) {
        tests.sentence("COMMENTS of a thing are units (0 .. 255), at most 200, and do not change the digest.");
        tests.test("units (0 .. 255)", TermsTest::units);
        tests.test("at most 200", TermsTest::mostComments);
        tests.test("do not change the digest", TermsTest::commentsAndDigest);
    }

    private static void constants(Sentences tests) {
        tests.sentence("`LATE = -3`: A second before the clock, or out of its range.");
        tests.test("before the clock", TermsTest::lateBefore);
        tests.test("out of its range", TermsTest::lateOut);
        tests.sentence("`MAKER = -4`: The person made the thing.");
        tests.test("each maker's own thing alone", TermsTest::maker);
        tests.sentence("`ORDER = -5`: A meaning that must come before has no signature that holds.");
        tests.test("none, then one", TermsTest::order);
        tests.sentence("`TWICE = -6`: A signature of the person with the meaning holds.");
        tests.test("holds, then holds no more", TermsTest::twice);
    }

    private static void persons(Answers answers) {
        Run run = Run.withPersons(answers, 24);
        run.person(SignRows.FULL);
    }

    private static void things(Answers answers) {
        Run run = Run.withPersons(answers, 1);
        for (int t = 0; t < 16; t++) {
            run.thing(0, t);
        }
        run.thing(0, SignRows.FULL);
    }

    private static void makers(Answers answers) {
        Run run = new Run(answers);
        run.thing(0, SignRows.NONE);
        run.person(0);
        run.thing(0, 0);
        run.thing(1, SignRows.NONE);
    }

    // What calls behind the 512th answer is free; no shorter run can bring so many bytes.
    private static void bytes(Answers answers) {
        Run run = Run.beyondPromise(answers);
        run.person(0);
        run.thing(0, 0);
        for (int i = 0; i < 1000; i++) {
            run.byteOf(0, i % 256, true);
        }
        run.byteOf(0, 0, false);
    }

    private static void signatures(Answers answers) {
        Run run = Run.withSigners(answers, 6);
        Fill.signatures(run);
        run.withdraw(0, true);
        run.sign(0, 1, 0, 0, SignRows.FULL);
        run.holds(399, true);
        run.holds(400, false);
    }

    private static void roleNumbers(Answers answers) {
        Run run = Run.withPersons(answers, 1);
        for (int r = 0; r < 10; r++) {
            run.role(0, r, 0, 1, true);
        }
        run.role(0, -1, 0, 1, false);
        run.role(0, 10, 0, 1, false);
    }

    private static void meaningNumbers(Answers answers) {
        Run run = Run.withSigners(answers, 2);
        for (int m = 0; m < 10; m++) {
            run.sign(0, 1, m, 0, m);
        }
        run.sign(0, 1, -1, 0, SignRows.NONE);
        run.sign(0, 1, 10, 0, SignRows.NONE);
    }

    private static void roleOfThatNumber(Answers answers) {
        Run run = Run.withPersons(answers, 2);
        run.thing(0, 0);
        run.role(1, 4, 0, LAST, true);
        run.sign(0, 1, 3, 0, Run.THROWN);
        run.sign(0, 1, 5, 0, Run.THROWN);
        run.sign(0, 1, 4, 0, 0);
    }

    private static void roleThen(Answers answers) {
        Run run = Run.withPersons(answers, 2);
        run.thing(0, 0);
        run.role(1, 4, 10, 20, true);
        run.sign(0, 1, 4, 9, Run.THROWN);
        run.sign(0, 1, 4, 21, Run.THROWN);
        run.sign(0, 1, 4, 15, 0);
        run.comment(0, 1, 99, true);
        run.holds(0, true);
    }

    private static void firstSecond(Answers answers) {
        Run run = Run.withSigners(answers, 2);
        run.role(0, 0, -1, 0, false);
        run.role(0, 0, 0, 0, true);
        run.sign(0, 1, 0, -1, SignRows.LATE);
        run.sign(0, 1, 0, 0, 0);
        run.comment(0, 1, -1, false);
        run.comment(0, 1, 0, true);
    }

    private static void lastSecond(Answers answers) {
        Run run = Run.withSigners(answers, 2);
        run.role(0, 0, LAST, LAST + 1, false);
        run.role(0, 0, LAST, LAST, true);
        run.sign(0, 1, 0, LAST + 1, SignRows.LATE);
        run.sign(0, 1, 0, LAST, 0);
        run.comment(0, 1, LAST + 1, false);
        run.comment(0, 1, LAST, true);
    }

    private static void greatSeconds(Answers answers) {
        long turn = 1L << 32;
        Run run = Run.withPersons(answers, 2);
        run.thing(0, 0);
        run.role(1, 0, turn + 5, turn + 6, true);
        run.role(1, 0, turn + 5, 5, false);
        run.sign(0, 1, 0, 5, Run.THROWN);
        run.sign(0, 1, 0, 2 * turn + 5, Run.THROWN);
        run.sign(0, 1, 0, turn + 5, 0);
        run.comment(0, 1, turn + 4, false);
        run.comment(0, 1, turn / 2, false);
        run.comment(0, 1, 2 * turn, true);
    }

    private static void clockAtFirst(Answers answers) {
        Run.withSigners(answers, 2).sign(0, 1, 0, 0, 0);
        Run.withSigners(answers, 2).comment(0, 1, 0, true);
    }

    private static void clockOfSignature(Answers answers) {
        Run run = Run.withSigners(answers, 2);
        run.sign(0, 1, 0, 50, 0);
        run.comment(0, 1, 49, false);
        run.sign(0, 1, 1, 49, SignRows.LATE);
        run.sign(0, 1, 1, 50, 1);
        run.withdraw(0, true);
        run.withdraw(1, true);
        run.comment(0, 1, 49, false);
    }

    private static void clockOfComment(Answers answers) {
        Run run = Run.withSigners(answers, 2);
        run.comment(0, 1, 50, true);
        run.sign(0, 1, 0, 49, SignRows.LATE);
        run.comment(0, 1, 49, false);
        run.comment(0, 1, 50, true);
        run.sign(0, 1, 0, 50, 0);
    }

    private static void clockOfAnyThing(Answers answers) {
        Run run = Run.withSigners(answers, 2);
        run.thing(0, 1);
        run.sign(1, 1, 0, 50, 0);
        run.sign(0, 1, 0, 49, SignRows.LATE);
        run.comment(0, 1, 49, false);
        run.comment(1, 1, 60, true);
        run.sign(0, 1, 0, 59, SignRows.LATE);
        run.comment(0, 1, 60, true);
    }

    private static void clockOfTaken(Answers answers) {
        Run run = Run.withSigners(answers, 2);
        run.sign(0, 1, 0, 5, 0);
        run.sign(0, 1, 0, 90, SignRows.TWICE);
        run.comment(0, 256, 90, false);
        run.comment(0, 1, LAST + 1, false);
        run.role(0, 0, 90, 91, true);
        run.sign(0, 1, 1, 5, 1);
    }

    private static void digestOfNone(Answers answers) {
        Run run = Run.withPersons(answers, 1);
        run.thing(0, 0);
        run.digestOf(0);
    }

    // The example of FIPS 180-4's own papers, so that not all rests on the library's digest.
    private static void digestOfAbc(Answers answers) {
        String due = "ba7816bf8f01cfea414140de5dae2223b00361a396177a9cb410ff61f20015ad";
        Run run = Run.withPersons(answers, 1);
        run.thing(0, 0);
        run.byteOf(0, 'a', true);
        run.byteOf(0, 'b', true);
        run.byteOf(0, 'c', true);
        for (int i = 0; i < 32; i++) {
            run.digest(0, i, Integer.parseInt(due.substring(2 * i, 2 * i + 2), 16));
        }
    }

    private static void digestOfLengths(Answers answers) {
        for (int length = 1; length <= 192; length++) {
            Run run = Run.withPersons(answers, 1);
            run.thing(0, 0);
            byte[] bytes = new byte[length];
            for (int i = 0; i < length; i++) {
                bytes[i] = (byte) (37 * i + length);
                run.byteOf(0, bytes[i] & 0xff, true);
            }
            run.digestOf(0, bytes);
        }
    }

    private static void digestOfExtremes(Answers answers) {
        Run run = Run.withPersons(answers, 1);
        run.thing(0, 0);
        run.thing(0, 1);
        byte[] highest = new byte[100];
        for (int i = 0; i < 100; i++) {
            highest[i] = (byte) 255;
            run.byteOf(0, 0, true);
            run.byteOf(1, 255, true);
        }
        run.digestOf(0, new byte[100]);
        run.digestOf(1, highest);
    }

    private static void holdsNotWithdrawn(Answers answers) {
        Run run = Run.withSigners(answers, 2);
        run.sign(0, 1, 0, 0, 0);
        run.holds(0, true);
        run.withdraw(0, true);
        run.holds(0, false);
    }

    private static void holdsWithDigest(Answers answers) {
        Run run = Run.withSigners(answers, 2);
        run.sign(0, 1, 0, 0, 0);
        run.byteOf(0, 0, true);
        run.holds(0, false);
        run.sign(0, 1, 0, 0, 1);
        run.holds(1, true);
        run.holds(0, false);
    }

    private static void units(Answers answers) {
        Run run = Run.withPersons(answers, 1);
        run.thing(0, 0);
        for (int u = 0; u < 200; u++) {
            run.comment(0, 255 * u / 199, 0, true);
        }
        for (int u = 0; u < 200; u++) {
            run.digest(0, 32 + u, 255 * u / 199);
        }
    }

    private static void mostComments(Answers answers) {
        Run run = Run.withPersons(answers, 1);
        run.thing(0, 0);
        for (int u = 0; u < 200; u++) {
            run.comment(0, u, 0, true);
        }
        run.comment(0, 1, 0, false);
    }

    private static void commentsAndDigest(Answers answers) {
        Run run = Run.withSigners(answers, 2);
        run.byteOf(0, 9, true);
        run.sign(0, 1, 0, 0, 0);
        run.comment(0, 9, 0, true);
        run.digestOf(0, (byte) 9);
        run.holds(0, true);
        run.byteOf(0, 8, true);
        run.digestOf(0, (byte) 9, (byte) 8);
    }

    private static void lateBefore(Answers answers) {
        Run run = Run.withSigners(answers, 2);
        run.sign(0, 1, 0, 7, 0);
        run.sign(0, 1, 1, 6, SignRows.LATE);
        run.sign(0, 1, 1, 0, SignRows.LATE);
        run.sign(0, 1, 1, 7, 1);
    }

    private static void lateOut(Answers answers) {
        Run run = Run.withSigners(answers, 2);
        run.sign(0, 1, 0, LAST + 1, SignRows.LATE);
        run.sign(0, 1, 0, Long.MAX_VALUE, SignRows.LATE);
        run.sign(0, 1, 0, -1, SignRows.LATE);
        run.sign(0, 1, 0, Long.MIN_VALUE, SignRows.LATE);
    }

    private static void maker(Answers answers) {
        Run run = Run.withPersons(answers, 2);
        run.role(0, 0, 0, 9, true);
        run.role(1, 0, 0, 9, true);
        run.thing(0, 0);
        run.thing(1, 1);
        run.sign(0, 0, 0, 0, SignRows.MAKER);
        run.sign(1, 1, 0, 0, SignRows.MAKER);
        run.sign(0, 1, 0, 0, 0);
        run.sign(1, 0, 0, 0, 1);
    }

    private static void order(Answers answers) {
        Run run = Run.withSigners(answers, 2);
        run.order(1, 0, true);
        run.sign(0, 1, 1, 0, SignRows.ORDER);
        run.sign(0, 1, 0, 0, 0);
        run.sign(0, 1, 1, 0, 1);
    }

    private static void twice(Answers answers) {
        Run run = Run.withSigners(answers, 2);
        run.sign(0, 1, 0, 0, 0);
        run.sign(0, 1, 0, 0, SignRows.TWICE);
        run.withdraw(0, true);
        run.sign(0, 1, 0, 0, 1);
    }
}
