import java.security.MessageDigest;
import java.security.NoSuchAlgorithmException;

public final class Promise05DigestTest {
    public static void main(String[] args) throws NoSuchAlgorithmException {
        for (int count = 1; count <= 256; count++) {
            sameAsThePublishedWay(count);
        }
        beforeAndBehind();
        ofTheLastPackage();
        Due.end();
    }

    private static byte[] published(int hardware, int count) throws NoSuchAlgorithmException {
        byte[] octets = new byte[count];
        for (int i = 0; i < count; i++) {
            octets[i] = Made.octet(hardware, i);
        }
        return MessageDigest.getInstance("SHA-256").digest(octets);
    }

    private static void isDigest(String what, UpdatePacks x, byte[] want) {
        for (int i = 0; i < 32; i++) {
            Due.is("digest(" + i + ") of " + what, x.digest(i), want[i]);
        }
    }

    private static void sameAsThePublishedWay(int count) throws NoSuchAlgorithmException {
        UpdatePacks x = Made.controllers(1);
        Made.pack(x, 1, 1, count);
        isDigest(count + " octets", x, published(1, count));
    }

    private static void beforeAndBehind() {
        UpdatePacks x = Made.controllers(1);
        int[] none = {-1, 32, 33, 64, Integer.MIN_VALUE, Integer.MAX_VALUE};
        Due.throwsIndex("digest(0) before a package", () -> x.digest(0));
        Due.throwsIndex("digest(31) before a package", () -> x.digest(31));
        x.octet((byte) 1);
        Due.throwsIndex("digest(0) before a package, with octets", () -> x.digest(0));
        Due.is("refused", x.package0(1, 1, false), -5);
        Due.throwsIndex("digest(0) after a refusal", () -> x.digest(0));
        Due.is("taken", x.package0(1, 1, true), 1);
        for (int i : none) {
            Due.throwsIndex("digest(" + i + ")", () -> x.digest(i));
        }
    }

    private static void ofTheLastPackage() throws NoSuchAlgorithmException {
        UpdatePacks x = Made.controllers(2);
        Made.pack(x, 1, 1, 200);
        Made.pack(x, 2, 1, 3);
        isDigest("the second package", x, published(2, 3));
        x.octet((byte) 1);
        Due.is("a refused one", x.package0(2, 2, true), -6);
        isDigest("the second, after a refusal", x, published(2, 3));
        x.cut();
        isDigest("the second, after a cut", x, published(2, 3));
    }
}
