import java.security.MessageDigest;
import java.security.NoSuchAlgorithmException;
import java.util.Arrays;
import java.util.HexFormat;

public final class TermsDigestTest {
    public static void main(String[] args) {
        Due.sentence("behind the octets come 128, so many 0s that 8 octets are missing to a multiple of 64, "
                + "and how many bits they were, 8 octets", TermsDigestTest::everyLength);
        Due.sentence("by the published way in eight words of 32 bits", TermsDigestTest::publishedAnswers);
        Due.sentence("xor moved by r (0s coming in)", TermsDigestTest::highestBits);
        Due.sentence("For each 64 octets", TermsDigestTest::eachRow);
        Due.sentence("sums wrap; the highest octet of a word first", TermsDigestTest::allBitsAndNone);
        Due.sentence("h(0) .. h(7) begin as the first 32 bits", TermsDigestTest::eachBeginsAnew);
        Due.end();
    }

    private static byte[] published(byte[] octets) {
        try {
            return MessageDigest.getInstance("SHA-256").digest(octets);
        } catch (NoSuchAlgorithmException e) {
            throw new IllegalStateException(e);
        }
    }

    private static void pack(UpdatePacks x, int edition, byte[] octets) {
        for (byte b : octets) {
            x.octet(b);
        }
        Due.is("package0 of " + octets.length, x.package0(1, edition, true) > 0 ? 1 : 0, 1);
    }

    private static void isDigest(String what, UpdatePacks x, byte[] want) {
        for (int i = 0; i < 32; i++) {
            Due.is("digest(" + i + ") of " + what, x.digest(i), want[i]);
        }
    }

    private static byte[] some(int count) {
        byte[] octets = new byte[count];
        for (int i = 0; i < count; i++) {
            octets[i] = Made.octet(1, i);
        }
        return octets;
    }

    /** At 55 octets nothing but 128 and the bits comes behind them; at 56 and at 64 a row of 64 more begins. */
    private static void everyLength() {
        for (int count = 1; count <= 256; count++) {
            UpdatePacks x = Made.controllers(1);
            pack(x, 1, some(count));
            isDigest(count + " octets", x, published(some(count)));
        }
    }

    private static void publishedAnswers() {
        isPublished("abc", "ba7816bf8f01cfea414140de5dae2223b00361a396177a9cb410ff61f20015ad");
        isPublished("abcdbcdecdefdefgefghfghighijhijkijkljklmklmnlmnomnopnopq",
                "248d6a61d20638b8e5c026930c3e6039a33ce45964ff2167f6ecedd419db06c1");
        isPublished("abcdefghbcdefghicdefghijdefghijkefghijklfghijklmghijklmn"
                + "hijklmnoijklmnopjklmnopqklmnopqrlmnopqrsmnopqrstnopqrstu",
                "cf5b16a778af8380036ce59e7b0492370b249b11e8f07a51afac45037afee9d1");
    }

    private static void isPublished(String text, String want) {
        UpdatePacks x = new UpdatePacks();
        Due.is("a controller of hardware 97", x.controller('a'), 1);
        byte[] octets = new byte[text.length()];
        for (int i = 0; i < octets.length; i++) {
            octets[i] = (byte) text.charAt(i);
        }
        pack(x, 1, octets);
        isDigest(text, x, HexFormat.of().parseHex(want));
    }

    /** In each word of the first row in turn the highest bit is the only one, but for the hardware. */
    private static void highestBits() {
        for (int word = 1; word < 14; word++) {
            byte[] octets = new byte[64];
            octets[0] = 1;
            octets[4 * word] = -128;
            UpdatePacks x = Made.controllers(1);
            pack(x, 1, octets);
            isDigest("the highest bit of word " + word, x, published(octets));
        }
    }

    /** 256 octets and what comes behind them are five rows; in each of the first four in turn one octet is another. */
    private static void eachRow() {
        for (int row = 0; row < 4; row++) {
            byte[] octets = some(256);
            octets[64 * row + 63] ^= 64;
            UpdatePacks x = Made.controllers(1);
            pack(x, 1, octets);
            isDigest("another octet in row " + row, x, published(octets));
        }
    }

    private static void allBitsAndNone() {
        for (int count : new int[] {2, 55, 56, 64, 256}) {
            for (byte b : new byte[] {-1, 0, -128, 127}) {
                byte[] octets = new byte[count];
                Arrays.fill(octets, b);
                octets[0] = 1;
                UpdatePacks x = Made.controllers(1);
                pack(x, 1, octets);
                isDigest(count + " octets of " + b, x, published(octets));
            }
        }
    }

    private static void eachBeginsAnew() {
        UpdatePacks x = Made.controllers(1);
        int edition = 0;
        for (int count : new int[] {130, 1, 130, 1}) {
            edition++;
            pack(x, edition, some(count));
            isDigest(count + " octets, after others", x, published(some(count)));
        }
    }
}
