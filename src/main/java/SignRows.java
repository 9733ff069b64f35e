/**
 * Signatures on things by persons in roles: each binds the digest of the thing's bytes; orders of
 * meanings, makers that may not check, withdrawals, things changed that need them anew, what is
 * lacking.
 */
public final class SignRows {
    public static final int NONE = -1;
    public static final int FULL = -2;
    public static final int LATE = -3;
    public static final int MAKER = -4;
    public static final int ORDER = -5;
    public static final int TWICE = -6;

    private static final int MOST_PERSONS = 24;
    private static final int MOST_ROLES = 100;
    private static final int MOST_THINGS = 16;
    private static final int MOST_BYTES = 1000;
    private static final int MOST_COMMENTS = 200;
    private static final int MOST_SIGNATURES = 400;
    private static final int MEANINGS = 10;
    private static final int GREATEST_BYTE = 255;
    private static final int DIGEST_BYTES = 32;
    private static final int DIGEST_WORDS = 8;
    private static final long LAST_SECOND = 1_000_000_000_000L;

    private int personCount;
    private final Role[] roles = new Role[MOST_ROLES];
    private int roleCount;
    private final Thing[] things = new Thing[MOST_THINGS];
    private int thingCount;
    private final Signature[] signatures = new Signature[MOST_SIGNATURES];
    private int signatureCount;
    private final int[] withdrawn = new int[MOST_SIGNATURES];
    private int withdrawnCount;
    // Of each meaning, as bits: those told to come before it, and those that do so over others too.
    private final int[] toldBefore = new int[MEANINGS];
    private final int[] everBefore = new int[MEANINGS];
    private long clock;
    private final Sha256 sha = new Sha256();

    public SignRows() {
    }

    public int person() {
        if (personCount >= MOST_PERSONS) {
            return FULL;
        }
        return personCount++;
    }

    public boolean role(int person, int r, long from, long to) {
        if (!isPerson(person) || !isMeaning(r)) {
            return false;
        }
        if (from < 0 || to > LAST_SECOND || from > to || roleCount >= MOST_ROLES) {
            return false;
        }
        roles[roleCount] = new Role(person, r, from, to);
        roleCount++;
        return true;
    }

    public int thing(int maker) {
        if (!isPerson(maker)) {
            return NONE;
        }
        if (thingCount >= MOST_THINGS) {
            return FULL;
        }
        things[thingCount] = new Thing(maker);
        return thingCount++;
    }

    public boolean byteOf(int thing, int b) {
        Thing grown = thingAt(thing);
        if (grown == null || !isByte(b) || grown.byteCount >= MOST_BYTES) {
            return false;
        }
        grown.bytes[grown.byteCount] = (byte) b;
        grown.byteCount++;
        grown.digestStale = true;
        return true;
    }

    public int sign(int thing, int person, int meaning, long second) throws IllegalStateException {
        Thing signed = thingAt(thing);
        if (signed == null || !isPerson(person) || !isMeaning(meaning)) {
            return NONE;
        }
        if (isLate(second)) {
            return LATE;
        }
        if (!hasRole(person, meaning, second)) {
            throw new IllegalStateException("the person does not hold the role at that second");
        }
        if (signed.maker == person) {
            return MAKER;
        }
        if ((toldBefore[meaning] & ~meaningsThatHold(signed)) != 0) {
            return ORDER;
        }
        if (isSignedBy(signed, person, meaning)) {
            return TWICE;
        }
        if (signatureCount >= MOST_SIGNATURES) {
            return FULL;
        }
        Signature made = new Signature(signed, person, meaning);
        copyWords(digestWordsOf(signed), made.digestWords);
        signatures[signatureCount] = made;
        clock = second;
        return signatureCount++;
    }

    public boolean holds(int signature) {
        Signature asked = signatureAt(signature);
        return asked != null && isStanding(asked);
    }

    public boolean withdraw(int signature) {
        Signature ended = signatureAt(signature);
        if (ended == null || ended.isWithdrawn || withdrawnCount >= MOST_SIGNATURES) {
            return false;
        }
        ended.isWithdrawn = true;
        withdrawn[withdrawnCount] = signature;
        withdrawnCount++;
        return true;
    }

    public boolean order(int meaning, int after) {
        if (!isMeaning(meaning) || !isMeaning(after) || meaning == after) {
            return false;
        }
        if (hasBit(toldBefore[meaning], after) || hasBit(everBefore[after], meaning)) {
            return false;
        }
        toldBefore[meaning] |= 1 << after;
        int earlier = everBefore[after] | (1 << after);
        for (int m = 0; m < MEANINGS; m++) {
            if (m == meaning || hasBit(everBefore[m], meaning)) {
                everBefore[m] |= earlier;
            }
        }
        return true;
    }

    public int complete(int thing) {
        Thing asked = thingAt(thing);
        if (asked == null) {
            return NONE;
        }
        int held = meaningsThatHold(asked);
        for (int n = 0; n < MEANINGS && n < asked.neededCount; n++) {
            if (!hasBit(held, asked.needed[n])) {
                return 1 + n;
            }
        }
        return 0;
    }

    public boolean comment(int thing, int u, long second) {
        Thing noted = thingAt(thing);
        if (noted == null || !isByte(u) || isLate(second) || noted.commentCount >= MOST_COMMENTS) {
            return false;
        }
        noted.comments[noted.commentCount] = (byte) u;
        noted.commentCount++;
        clock = second;
        return true;
    }

    public int digest(int thing, int i) {
        Thing asked = thingAt(thing);
        if (asked == null || i < 0) {
            return NONE;
        }
        if (i < DIGEST_BYTES) {
            return (digestWordsOf(asked)[i / 4] >>> (24 - 8 * (i % 4))) & 0xff;
        }
        int unit = i - DIGEST_BYTES;
        if (unit >= asked.commentCount || unit >= MOST_COMMENTS) {
            return NONE;
        }
        return asked.comments[unit] & 0xff;
    }

    public int listed(int k) {
        if (k < 0 || k >= withdrawnCount || k >= MOST_SIGNATURES) {
            return NONE;
        }
        return withdrawn[k];
    }

    public int needs(int thing, int meaning) {
        Thing needy = thingAt(thing);
        if (needy == null || !isMeaning(meaning)) {
            return NONE;
        }
        for (int n = 0; n < MEANINGS && n < needy.neededCount; n++) {
            if (needy.needed[n] == meaning) {
                return n;
            }
        }
        // Never so, for each meaning is needed but once; the index below rests on it.
        if (needy.neededCount >= MEANINGS) {
            return NONE;
        }
        needy.needed[needy.neededCount] = meaning;
        return needy.neededCount++;
    }

    private boolean isPerson(int person) {
        return person >= 0 && person < personCount;
    }

    // Roles have the numbers of the meanings, so this serves for both.
    private static boolean isMeaning(int meaning) {
        return meaning >= 0 && meaning < MEANINGS;
    }

    private static boolean isByte(int b) {
        return b >= 0 && b <= GREATEST_BYTE;
    }

    // The clock is never below 0, so a second below 0 is before it.
    private boolean isLate(long second) {
        return second < clock || second > LAST_SECOND;
    }

    private static boolean hasBit(int bits, int bit) {
        return ((bits >>> bit) & 1) == 1;
    }

    private Thing thingAt(int thing) {
        if (thing < 0 || thing >= thingCount || thing >= MOST_THINGS) {
            return null;
        }
        return things[thing];
    }

    private Signature signatureAt(int signature) {
        if (signature < 0 || signature >= signatureCount || signature >= MOST_SIGNATURES) {
            return null;
        }
        return signatures[signature];
    }

    private boolean hasRole(int person, int r, long second) {
        for (int i = 0; i < MOST_ROLES && i < roleCount; i++) {
            Role told = roles[i];
            if (told != null && told.isHeldBy(person, r, second)) {
                return true;
            }
        }
        return false;
    }

    /** The meanings, as bits, of which a signature on the thing holds. */
    private int meaningsThatHold(Thing thing) {
        int held = 0;
        for (int i = 0; i < signatureCount; i++) {
            Signature made = signatureAt(i);
            if (made != null && made.thing == thing && isStanding(made)) {
                held |= 1 << made.meaning;
            }
        }
        return held;
    }

    private boolean isSignedBy(Thing thing, int person, int meaning) {
        for (int i = 0; i < signatureCount; i++) {
            Signature made = signatureAt(i);
            if (made != null && made.isOf(thing, person, meaning) && isStanding(made)) {
                return true;
            }
        }
        return false;
    }

    private boolean isStanding(Signature made) {
        return !made.isWithdrawn && areSameWords(made.digestWords, digestWordsOf(made.thing));
    }

    // Bytes often come many in a row, so the digest is made only when it is asked for.
    private int[] digestWordsOf(Thing thing) {
        if (thing.digestStale) {
            sha.hashBytes(thing.bytes, thing.byteCount);
            copyWords(sha.state, thing.digestWords);
            thing.digestStale = false;
        }
        return thing.digestWords;
    }

    private static void copyWords(int[] from, int[] to) {
        for (int w = 0; w < DIGEST_WORDS; w++) {
            to[w] = from[w];
        }
    }

    private static boolean areSameWords(int[] one, int[] other) {
        for (int w = 0; w < DIGEST_WORDS; w++) {
            if (one[w] != other[w]) {
                return false;
            }
        }
        return true;
    }

    /** A role that a person holds from a second to another one, both with it. */
    private static final class Role {
        private final int person;
        private final int number;
        private final long from;
        private final long to;

        Role(int person, int number, long from, long to) {
            this.person = person;
            this.number = number;
            this.from = from;
            this.to = to;
        }

        boolean isHeldBy(int asked, int r, long second) {
            return person == asked && number == r && from <= second && second <= to;
        }
    }

    /** A thing with its bytes, their digest, its comments and the meanings that it needs. */
    private static final class Thing {
        private final int maker;
        private final byte[] bytes = new byte[MOST_BYTES];
        private int byteCount;
        private final int[] digestWords = new int[DIGEST_WORDS];
        private boolean digestStale = true;
        private final byte[] comments = new byte[MOST_COMMENTS];
        private int commentCount;
        private final int[] needed = new int[MEANINGS];
        private int neededCount;

        Thing(int maker) {
            this.maker = maker;
        }
    }

    /** A signature with the digest that its thing had when it was made. */
    private static final class Signature {
        private final Thing thing;
        private final int person;
        private final int meaning;
        private final int[] digestWords = new int[DIGEST_WORDS];
        private boolean isWithdrawn;

        Signature(Thing thing, int person, int meaning) {
            this.thing = thing;
            this.person = person;
            this.meaning = meaning;
        }

        boolean isOf(Thing asked, int signer, int sense) {
            return thing == asked && person == signer && meaning == sense;
        }
    }

    /** SHA-256 of FIPS 180-4; its rows are made once and serve for every digest. */
    private static final class Sha256 {
        private static final int BLOCK_BYTES = 64;
        private static final int BLOCK_WORDS = 16;
        private static final int ROUNDS = 64;
        private static final int[] FIRST_STATE = {
            0x6a09e667, 0xbb67ae85, 0x3c6ef372, 0xa54ff53a,
            0x510e527f, 0x9b05688c, 0x1f83d9ab, 0x5be0cd19
        };
        private static final int[] ROUND_WORDS = {
            0x428a2f98, 0x71374491, 0xb5c0fbcf, 0xe9b5dba5, 0x3956c25b, 0x59f111f1, 0x923f82a4, 0xab1c5ed5,
            0xd807aa98, 0x12835b01, 0x243185be, 0x550c7dc3, 0x72be5d74, 0x80deb1fe, 0x9bdc06a7, 0xc19bf174,
            0xe49b69c1, 0xefbe4786, 0x0fc19dc6, 0x240ca1cc, 0x2de92c6f, 0x4a7484aa, 0x5cb0a9dc, 0x76f988da,
            0x983e5152, 0xa831c66d, 0xb00327c8, 0xbf597fc7, 0xc6e00bf3, 0xd5a79147, 0x06ca6351, 0x14292967,
            0x27b70a85, 0x2e1b2138, 0x4d2c6dfc, 0x53380d13, 0x650a7354, 0x766a0abb, 0x81c2c92e, 0x92722c85,
            0xa2bfe8a1, 0xa81a664b, 0xc24b8b70, 0xc76c51a3, 0xd192e819, 0xd6990624, 0xf40e3585, 0x106aa070,
            0x19a4c116, 0x1e376c08, 0x2748774c, 0x34b0bcb5, 0x391c0cb3, 0x4ed8aa4a, 0x5b9cca4f, 0x682e6ff3,
            0x748f82ee, 0x78a5636f, 0x84c87814, 0x8cc70208, 0x90befffa, 0xa4506ceb, 0xbef9a3f7, 0xc67178f2
        };

        private final int[] state = new int[DIGEST_WORDS];
        private final int[] schedule = new int[ROUNDS];

        Sha256() {
        }

        /** Leaves in the state the digest of the first count bytes. */
        void hashBytes(byte[] bytes, int count) {
            copyWords(FIRST_STATE, state);
            // Behind the bytes come one byte 0x80 and, in the last eight, the length in bits.
            int blocks = (count + 8) / BLOCK_BYTES + 1;
            for (int block = 0; block < blocks; block++) {
                loadBlock(bytes, count, block, blocks);
                spreadBlock();
                mixBlock();
            }
        }

        private void loadBlock(byte[] bytes, int count, int block, int blocks) {
            for (int w = 0; w < BLOCK_WORDS; w++) {
                int at = block * BLOCK_BYTES + 4 * w;
                schedule[w] = (paddedByte(bytes, count, at) << 24)
                    | (paddedByte(bytes, count, at + 1) << 16)
                    | (paddedByte(bytes, count, at + 2) << 8)
                    | paddedByte(bytes, count, at + 3);
            }
            if (block == blocks - 1) {
                // The length stays below 2 to the 32, so its upper word is the 0 of the padding.
                schedule[BLOCK_WORDS - 1] = count * 8;
            }
        }

        private static int paddedByte(byte[] bytes, int count, int at) {
            if (at >= 0 && at < count && at < bytes.length) {
                return bytes[at] & 0xff;
            }
            return at == count ? 0x80 : 0;
        }

        private void spreadBlock() {
            for (int t = BLOCK_WORDS; t < ROUNDS; t++) {
                int late = schedule[t - 2];
                int early = schedule[t - 15];
                int lateMix = turned(late, 17) ^ turned(late, 19) ^ (late >>> 10);
                int earlyMix = turned(early, 7) ^ turned(early, 18) ^ (early >>> 3);
                schedule[t] = lateMix + schedule[t - 7] + earlyMix + schedule[t - 16];
            }
        }

        // The letters are those of FIPS 180-4, section 6.2.2.
        private void mixBlock() {
            int a = state[0];
            int b = state[1];
            int c = state[2];
            int d = state[3];
            int e = state[4];
            int f = state[5];
            int g = state[6];
            int h = state[7];
            for (int t = 0; t < ROUNDS; t++) {
                int eMix = turned(e, 6) ^ turned(e, 11) ^ turned(e, 25);
                int aMix = turned(a, 2) ^ turned(a, 13) ^ turned(a, 22);
                int choice = (e & f) ^ (~e & g);
                int majority = (a & b) ^ (a & c) ^ (b & c);
                int t1 = h + eMix + choice + ROUND_WORDS[t] + schedule[t];
                h = g;
                g = f;
                f = e;
                e = d + t1;
                d = c;
                c = b;
                b = a;
                a = t1 + aMix + majority;
            }
            state[0] += a;
            state[1] += b;
            state[2] += c;
            state[3] += d;
            state[4] += e;
            state[5] += f;
            state[6] += g;
            state[7] += h;
        }

        private static int turned(int word, int by) {
            return (word >>> by) | word << (32 - by);
        }
    }
}
