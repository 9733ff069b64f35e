import java.security.MessageDigest;
import java.security.NoSuchAlgorithmException;

/** Digests of the Java library, to compare with. */
final class Digests {
    private Digests() {
    }

    static byte[] sha256(byte[] bytes) {
        try {
            return MessageDigest.getInstance("SHA-256").digest(bytes);
        } catch (NoSuchAlgorithmException e) {
            throw new IllegalStateException(e);
        }
    }
}
