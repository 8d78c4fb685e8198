public final class Promise03OctetTest {
    public static void main(String[] args) {
        Due.sentence("An octet more for the next package", Promise03OctetTest::oneMore);
        Due.sentence("for the next package", Promise03OctetTest::forTheNextAlone);
        Due.sentence("An octet more", Promise03OctetTest::everyOctet);
        Due.sentence("lost if there are 256", Promise03OctetTest::lostIfFull);
        Due.end();
    }

    private static void oneMore() {
        for (int count : new int[] {1, 2, 16, 17, 255, 256}) {
            UpdatePacks x = Made.controllers(1);
            Made.pack(x, 1, 1, count);
            writeAll(x, count);
            // From 30 on every third: an object is used for at most 512 calls.
            for (int i = 0; i < 256; i += i < 30 ? 1 : 3) {
                Due.is("octet " + i + " of " + count, x.bank(1, 1, i), i < count ? Made.octet(1, i) : 0);
            }
        }
    }

    private static void writeAll(UpdatePacks x, int count) {
        int blocks = (count + 15) / 16;
        for (int n = 1; n <= blocks; n++) {
            Due.is("block " + n + " of " + blocks, x.step(1), n == blocks ? 2 : 1);
        }
    }

    private static void forTheNextAlone() {
        UpdatePacks x = Made.controllers(2);
        x.octet((byte) 2);
        Due.is("a refused one leaves them", x.package0(1, 1, true), -6);
        x.octet((byte) 77);
        Due.is("the next one takes them", x.package0(2, 1, true), 1);
        x.octet((byte) 1);
        x.octet((byte) 78);
        Made.steps(x, 2, 2);
        Due.is("first octet", x.bank(2, 1, 0), 2);
        Due.is("second octet", x.bank(2, 1, 1), 77);
        Due.is("those told later are not in it", x.bank(2, 1, 2), 0);
        Due.is("they are in the one after", x.package0(1, 1, true), 2);
        Made.steps(x, 1, 2);
        Due.is("its first octet", x.bank(1, 1, 0), 1);
        Due.is("its second octet", x.bank(1, 1, 1), 78);
        Due.is("and no more", x.bank(1, 1, 2), 0);
    }

    /** All 256 octets that there are, 128 in each of two packages. */
    private static void everyOctet() {
        for (int half = 0; half < 2; half++) {
            UpdatePacks x = Made.controllers(1);
            x.octet((byte) 1);
            for (int i = 0; i < 128; i++) {
                x.octet((byte) (128 * half + i));
            }
            Due.is("package0", x.package0(1, 1, true), 1);
            writeAll(x, 129);
            for (int i = 0; i < 128; i++) {
                Due.is("octet " + i, x.bank(1, 1, i + 1), (byte) (128 * half + i));
            }
        }
    }

    private static void lostIfFull() {
        UpdatePacks x = Made.controllers(1);
        Made.octets(x, 1, 256);
        for (int k = 0; k < 20; k++) {
            x.octet((byte) (90 + k));
        }
        Due.is("package0 of 256 and more", x.package0(1, 1, true), 1);
        Due.is("none is left for the next", x.package0(1, 2, true), -2);
        writeAll(x, 256);
        for (int i = 0; i < 20; i++) {
            Due.is("octet " + i, x.bank(1, 1, i), Made.octet(1, i));
            Due.is("octet " + (236 + i), x.bank(1, 1, 236 + i), Made.octet(1, 236 + i));
        }
    }
}
