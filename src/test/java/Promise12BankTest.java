public final class Promise12BankTest {
    public static void main(String[] args) {
        Due.sentence("Octet i of a bank", Promise12BankTest::octetOfABank);
        Due.sentence("0 if there is no controller", Promise12BankTest::noController);
        Due.sentence("ArrayIndexOutOfBoundsException when the bank", Promise12BankTest::noSuchBank);
        Due.sentence("ArrayIndexOutOfBoundsException when the bank or the octet is none", Promise12BankTest::noSuchOctet);
        Due.end();
    }

    /** A bank full of octets that are not 0, in bank 1. */
    private static UpdatePacks written() {
        UpdatePacks x = Made.controllers(1);
        Made.pack(x, 1, 1, 256);
        for (int n = 0; n < 16; n++) {
            Due.is("block " + n, x.step(1), n == 15 ? 2 : 1);
        }
        return x;
    }

    private static void octetOfABank() {
        UpdatePacks x = written();
        for (int i = 0; i < 256; i += 3) {
            Due.is("bank(1, 1, " + i + ")", x.bank(1, 1, i), Made.octet(1, i));
        }
        for (int i = 0; i < 256; i += 5) {
            Due.is("bank(1, 0, " + i + ")", x.bank(1, 0, i), 0);
        }
        Made.steps(x, 1, 2, 3);
        Due.is("a bank keeps its number when it runs", x.bank(1, 1, 255), Made.octet(1, 255));
        x.silent(1, true);
        x.cut();
        Due.is("OFF and SILENT", x.bank(1, 1, 254), Made.octet(1, 254));
    }

    private static void noController() {
        UpdatePacks x = written();
        for (int c : Made.noController(1)) {
            Due.is("bank(" + c + ", 1, 0)", x.bank(c, 1, 0), 0);
            Due.is("bank(" + c + ", 0, 255)", x.bank(c, 0, 255), 0);
            Due.is("bank(" + c + ", 2, 0): nor such a bank", x.bank(c, 2, 0), 0);
            Due.is("bank(" + c + ", 0, -1): nor such an octet", x.bank(c, 0, -1), 0);
        }
    }

    private static void noSuchBank() {
        UpdatePacks x = written();
        for (int b : new int[] {-1, -2, 2, 3, 256, 257, Integer.MIN_VALUE, Integer.MAX_VALUE}) {
            Due.throwsIndex("bank(1, " + b + ", 0)", () -> x.bank(1, b, 0));
            Due.throwsIndex("bank(1, " + b + ", 256)", () -> x.bank(1, b, 256));
        }
    }

    private static void noSuchOctet() {
        UpdatePacks x = written();
        long[] none = {-1, -256, 256, 257, 511, 512, 65536, Integer.MIN_VALUE, Integer.MAX_VALUE, 1L << 31, 1L << 32,
            (1L << 32) + 1, (1L << 32) + 255, -(1L << 32), 1 - (1L << 32), Long.MIN_VALUE, Long.MIN_VALUE + 1, Long.MAX_VALUE};
        for (long i : none) {
            Due.throwsIndex("bank(1, 0, " + i + ")", () -> x.bank(1, 0, i));
            Due.throwsIndex("bank(1, 1, " + i + ")", () -> x.bank(1, 1, i));
        }
        Due.is("the first", x.bank(1, 1, 0), 1);
        Due.is("the last", x.bank(1, 1, 255), Made.octet(1, 255));
    }
}
