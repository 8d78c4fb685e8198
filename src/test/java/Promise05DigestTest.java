import java.security.MessageDigest;
import java.security.NoSuchAlgorithmException;

public final class Promise05DigestTest {
    public static void main(String[] args) {
        Due.sentence("Octet i of the last package's DIGEST.", Promise05DigestTest::ofTheLastPackage);
        Due.sentence("ArrayIndexOutOfBoundsException before and behind it", Promise05DigestTest::beforeAndBehind);
        Due.sentence("(all, if there was none)", Promise05DigestTest::allIfThereWasNone);
        Due.end();
    }

    private static void isDigest(String what, UpdatePacks x, int hardware, int count) {
        byte[] octets = new byte[count];
        for (int i = 0; i < count; i++) {
            octets[i] = Made.octet(hardware, i);
        }
        byte[] want = published(octets);
        for (int i = 0; i < 32; i++) {
            Due.is("digest(" + i + ") of " + what, x.digest(i), want[i]);
        }
    }

    private static byte[] published(byte[] octets) {
        try {
            return MessageDigest.getInstance("SHA-256").digest(octets);
        } catch (NoSuchAlgorithmException e) {
            throw new IllegalStateException(e);
        }
    }

    private static void ofTheLastPackage() {
        UpdatePacks x = Made.controllers(2);
        Made.pack(x, 1, 1, 70);
        isDigest("the first", x, 1, 70);
        Made.pack(x, 2, 1, 3);
        isDigest("the second", x, 2, 3);
        x.octet((byte) 1);
        Due.is("a refused one", x.package0(2, 2, true), -6);
        isDigest("the second, after a refusal", x, 2, 3);
        Made.steps(x, 1, 1);
        x.cut();
        x.boot(1);
        isDigest("the second, after a cut", x, 2, 3);
        Due.is("instead of the first", x.package0(1, 1, true), 3);
        isDigest("the third", x, 1, 1);
        Made.steps(x, 1, 2, 2, 3);
        isDigest("the third, OPEN no more", x, 1, 1);
    }

    private static void beforeAndBehind() {
        UpdatePacks x = Made.controllers(1);
        Made.pack(x, 1, 1, 256);
        for (int i : new int[] {-1, -2, -32, 32, 33, 64, 255, 256, Integer.MIN_VALUE, Integer.MAX_VALUE}) {
            Due.throwsIndex("digest(" + i + ")", () -> x.digest(i));
        }
        isDigest("it, from the first octet to the last", x, 1, 256);
    }

    private static void allIfThereWasNone() {
        UpdatePacks x = Made.controllers(1);
        allThrow("at first", x);
        x.octet((byte) 1);
        allThrow("with an octet", x);
        Due.is("refused", x.package0(1, 1, false), -5);
        allThrow("after a refusal", x);
        Due.is("taken", x.package0(1, 1, true), 1);
        isDigest("the first package", x, 1, 1);
    }

    private static void allThrow(String when, UpdatePacks x) {
        for (int i = -1; i <= 32; i++) {
            int octet = i;
            Due.throwsIndex("digest(" + i + ") " + when, () -> x.digest(octet));
        }
    }
}
