import java.math.BigInteger;

/** The DIGEST written once more by the document's words alone, without the library's way and without a table. */
public final class TermsDigestWordsTest {
    private static final int[] H = new int[8];
    private static final int[] K = new int[64];

    public static void main(String[] args) {
        fillRoots();
        Due.sentence("h(0) .. h(7) begin as the first 32 bits behind the point of the square roots of the first eight "
                + "primes; k(0) .. k(63) are those of the cube roots of the first 64 primes.",
                () -> isDigest(1));
        Due.sentence("w(0) .. w(15) are their words; w(t) = w(t - 16) + g(w(t - 15), 7, 18, 3) + w(t - 7) "
                + "+ g(w(t - 2), 17, 19, 10), g(x, p, q, r) being x turned to the right by p, xor turned by q, "
                + "xor moved by r (0s coming in).",
                () -> isDigest(55));
        Due.sentence("a .. h begin as h(0) .. h(7); for t from 0 to 63: x = h + (e turned by 6 xor by 11 xor by 25) "
                + "+ ((e and f) xor (not e and g)) + k(t) + w(t); y = (a turned by 2 xor by 13 xor by 22) "
                + "+ ((a and b) xor (a and c) xor (b and c)); then h = g, g = f, f = e, e = d + x, d = c, c = b, "
                + "b = a, a = x + y.",
                () -> isDigest(56));
        Due.sentence("Then each is added to its h(..). The DIGEST is h(0) .. h(7).",
                TermsDigestWordsTest::severalRows);
        Due.end();
    }

    private static void severalRows() {
        for (int count = 1; count <= 256; count++) {
            isDigest(count);
        }
    }

    private static void isDigest(int count) {
        UpdatePacks x = Made.controllers(1);
        byte[] octets = new byte[count];
        for (int i = 0; i < count; i++) {
            octets[i] = Made.octet(1, i);
        }
        Due.is("package0", Made.pack(x, 1, 1, count), 1);
        int[] want = digest(octets);
        for (int i = 0; i < 32; i++) {
            Due.is("digest(" + i + ") of " + count + " octets", x.digest(i), (byte) (want[i / 4] >> (24 - i % 4 * 8)));
        }
    }

    private static void fillRoots() {
        int prime = 1;
        for (int n = 0; n < 64; n++) {
            do {
                prime++;
            } while (!BigInteger.valueOf(prime).isProbablePrime(50));
            if (n < 8) {
                H[n] = behindThePoint(prime, 2);
            }
            K[n] = behindThePoint(prime, 3);
        }
    }

    /** The greatest r with r to the power not above the prime times 2 to the (32 power): its lowest 32 bits. */
    private static int behindThePoint(int prime, int power) {
        BigInteger limit = BigInteger.valueOf(prime).shiftLeft(32 * power);
        BigInteger root = BigInteger.ZERO;
        for (int bit = 40; bit >= 0; bit--) {
            BigInteger more = root.setBit(bit);
            if (more.pow(power).compareTo(limit) <= 0) {
                root = more;
            }
        }
        return root.intValue();
    }

    private static int[] digest(byte[] octets) {
        int zeros = 0;
        while ((octets.length + 1 + zeros + 8) % 64 != 0) {
            zeros++;
        }
        byte[] all = new byte[octets.length + 1 + zeros + 8];
        System.arraycopy(octets, 0, all, 0, octets.length);
        all[octets.length] = (byte) 128;
        int bits = octets.length * 8;
        all[all.length - 2] = (byte) (bits / 256);
        all[all.length - 1] = (byte) bits;
        int[] sums = H.clone();
        for (int from = 0; from < all.length; from += 64) {
            int[] ends = rounds(sums, words(all, from));
            for (int n = 0; n < 8; n++) {
                sums[n] += ends[n];
            }
        }
        return sums;
    }

    private static int[] words(byte[] all, int from) {
        int[] w = new int[64];
        for (int i = 0; i < 64; i++) {
            w[i / 4] = w[i / 4] * 256 + Byte.toUnsignedInt(all[from + i]);
        }
        for (int t = 16; t < 64; t++) {
            w[t] = w[t - 16] + g(w[t - 15], 7, 18, 3) + w[t - 7] + g(w[t - 2], 17, 19, 10);
        }
        return w;
    }

    private static int g(int x, int p, int q, int r) {
        return Integer.rotateRight(x, p) ^ Integer.rotateRight(x, q) ^ x >>> r;
    }

    private static int turns(int x, int p, int q, int r) {
        return Integer.rotateRight(x, p) ^ Integer.rotateRight(x, q) ^ Integer.rotateRight(x, r);
    }

    /** a .. h are v[0] .. v[7]. */
    private static int[] rounds(int[] begin, int[] w) {
        int[] v = begin.clone();
        for (int t = 0; t < 64; t++) {
            int x = v[7] + turns(v[4], 6, 11, 25) + (v[4] & v[5] ^ ~v[4] & v[6]) + K[t] + w[t];
            int y = turns(v[0], 2, 13, 22) + (v[0] & v[1] ^ v[0] & v[2] ^ v[1] & v[2]);
            System.arraycopy(v, 0, v, 1, 7);
            v[4] += x;
            v[0] = x + y;
        }
        return v;
    }
}
