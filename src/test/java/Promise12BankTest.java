public final class Promise12BankTest {
    public static void main(String[] args) {
        UpdatePacks x = Made.controllers(1);
        Made.pack(x, 1, 1, 256);
        for (int n = 0; n < 16; n++) {
            x.step(1);
        }
        Due.is("the first octet", x.bank(1, 1, 0), 1);
        Due.is("the last octet", x.bank(1, 1, 255), Made.octet(1, 255));
        Due.is("the other bank", x.bank(1, 0, 255), 0);
        for (int c : new int[] {0, -1, 2, 9, Integer.MIN_VALUE, Integer.MAX_VALUE}) {
            Due.is("bank(" + c + ", 1, 0)", x.bank(c, 1, 0), 0);
        }
        Due.is("no controller, and no such bank or octet", x.bank(2, 2, -1), 0);
        for (int b : new int[] {-1, 2, Integer.MIN_VALUE, Integer.MAX_VALUE}) {
            Due.throwsIndex("bank(1, " + b + ", 0)", () -> x.bank(1, b, 0));
        }
        long[] none = {-1, 256, Integer.MIN_VALUE, Integer.MAX_VALUE, 1L << 32, (1L << 32) + 1, -(1L << 32),
            Long.MIN_VALUE, Long.MAX_VALUE};
        for (long i : none) {
            Due.throwsIndex("bank(1, 0, " + i + ")", () -> x.bank(1, 0, i));
            Due.throwsIndex("bank(1, 1, " + i + ")", () -> x.bank(1, 1, i));
        }
        x.silent(1, true);
        x.cut();
        Due.is("OFF and SILENT", x.bank(1, 1, 0), 1);
        Due.end();
    }
}
