import java.security.MessageDigest;
import java.security.NoSuchAlgorithmException;

/** Compares digests with those of the Java library. */
final class Digests {
    private Digests() {
    }

    static byte[] sha256(byte[] bytes) {
        try {
            return MessageDigest.getInstance("SHA-256").digest(bytes);
        } catch (NoSuchAlgorithmException e) {
            throw new IllegalStateException(e);
        }
    }

    static void due(Answers answers, SignRows rows, int thing, byte[] bytes) {
        byte[] want = sha256(bytes);
        for (int i = 0; i < 32; i++) {
            String call = "digest(" + thing + ", " + i + ") of " + bytes.length + " bytes";
            answers.due(call, rows.digest(thing, i), want[i] & 0xff);
        }
    }
}
