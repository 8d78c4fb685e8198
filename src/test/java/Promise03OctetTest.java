public final class Promise03OctetTest {
    public static void main(String[] args) {
        inTheirOrder(1);
        inTheirOrder(17);
        inTheirOrder(255);
        inTheirOrder(256);
        theRestIsLost();
        stayAfterARefusal();
        Due.end();
    }

    private static void inTheirOrder(int count) {
        UpdatePacks x = Made.controllers(1);
        Made.pack(x, 1, 1, count);
        writeAll(x, count);
        // From 30 on every third: an object is used for at most 512 calls.
        for (int i = 0; i < 256; i += i < 30 ? 1 : 3) {
            Due.is("octet " + i + " of " + count, x.bank(1, 1, i), i < count ? Made.octet(1, i) : 0);
        }
    }

    private static void writeAll(UpdatePacks x, int count) {
        int blocks = (count + 15) / 16;
        for (int n = 1; n <= blocks; n++) {
            Due.is("block " + n + " of " + blocks, x.step(1), n == blocks ? 2 : 1);
        }
    }

    private static void theRestIsLost() {
        UpdatePacks x = Made.controllers(1);
        Made.octets(x, 1, 256);
        x.octet((byte) 99);
        x.octet((byte) 98);
        Due.is("package0 of 256 and more", x.package0(1, 1, true), 1);
        Due.is("none is left for the next", x.package0(1, 2, true), -2);
        writeAll(x, 256);
        Due.is("the first", x.bank(1, 1, 0), 1);
        Due.is("the last", x.bank(1, 1, 255), Made.octet(1, 255));
    }

    private static void stayAfterARefusal() {
        UpdatePacks x = Made.controllers(2);
        x.octet((byte) 2);
        Due.is("other hardware", x.package0(1, 1, true), -6);
        x.octet((byte) 77);
        Due.is("its hardware", x.package0(2, 1, true), 1);
        Due.is("step(2)", x.step(2), 2);
        Due.is("first octet", x.bank(2, 1, 0), 2);
        Due.is("second octet", x.bank(2, 1, 1), 77);
    }
}
