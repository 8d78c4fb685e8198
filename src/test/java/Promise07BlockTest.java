public final class Promise07BlockTest {
    public static void main(String[] args) {
        refusals();
        aFaultOfEachBlock();
        insteadOfOneBefore();
        waitsForItsBlock();
        aRefusalKeepsTheOneBefore();
        Due.end();
    }

    private static void refusals() {
        UpdatePacks x = Made.controllers(1);
        for (int c : new int[] {0, -1, 2, 9, Integer.MIN_VALUE, Integer.MAX_VALUE}) {
            Due.is("block(" + c + ")", x.block(c, 0, (byte) 1), -1);
        }
        Due.is("unknown before range", x.block(2, -1, (byte) 0), -1);
        for (int n : new int[] {-1, 16, Integer.MIN_VALUE, Integer.MAX_VALUE}) {
            Due.is("block(1, " + n + ")", x.block(1, n, (byte) 1), -2);
        }
        Due.is("a fault of 0", x.block(1, 0, (byte) 0), -2);
        Due.is("without a package", x.block(1, 0, (byte) 1), 1);
        Due.is("the last block", x.block(1, 15, (byte) -128), 1);
    }

    /** 250 octets: 16 blocks, the last one of 10. */
    private static void aFaultOfEachBlock() {
        for (int n = 0; n < 16; n++) {
            UpdatePacks x = Made.controllers(1);
            Made.pack(x, 1, 1, 250);
            Due.is("block", x.block(1, n, (byte) 0x5a), 1);
            for (int k = 0; k < n; k++) {
                Due.is("a block before", x.step(1), 1);
            }
            Due.is("the faulty block " + n, x.step(1), 1);
            // From the block before on: an object is used for at most 512 calls.
            for (int i = Math.max(0, 16 * n - 16); i < Math.min(256, 16 * n + 48); i++) {
                int good = i < 250 && i < 16 * n + 16 ? Made.octet(1, i) : 0;
                boolean bad = i < 250 && i / 16 == n;
                Due.is("octet " + i + " with block " + n + " faulty", x.bank(1, 1, i), bad ? (byte) (good ^ 0x5a) : good);
            }
            Due.is("block " + n + " again", x.step(1), n == 15 ? 2 : 1);
            Due.is("is good now", x.bank(1, 1, 16 * n), Made.octet(1, 16 * n));
        }
    }

    private static void insteadOfOneBefore() {
        UpdatePacks x = Made.controllers(2);
        Made.pack(x, 1, 1, 32);
        Made.pack(x, 2, 1, 16);
        x.block(1, 0, (byte) 1);
        x.block(1, 1, (byte) 2);
        Due.is("block 0 has no fault", x.step(1), 1);
        Due.is("octet 0", x.bank(1, 1, 0), 1);
        Due.is("block 1 has one", x.step(1), 1);
        Due.is("octet 16", x.bank(1, 1, 16), Made.octet(1, 16) ^ 2);
        Due.is("block 1 again", x.step(1), 2);
        Due.is("another controller has none", x.step(2), 2);
    }

    private static void waitsForItsBlock() {
        UpdatePacks x = Made.controllers(1);
        x.block(1, 1, (byte) 4);
        Made.run(x, 1, 1);
        Made.pack(x, 1, 2, 17);
        Due.is("block 0", x.step(1), 1);
        Due.is("block 1 has the fault", x.step(1), 1);
        Due.is("block 1 again", x.step(1), 2);
    }

    private static void aRefusalKeepsTheOneBefore() {
        UpdatePacks x = Made.controllers(1);
        Made.pack(x, 1, 1, 1);
        x.block(1, 0, (byte) 8);
        Due.is("refused", x.block(1, 16, (byte) 1), -2);
        Due.is("refused too", x.block(1, 0, (byte) 0), -2);
        Due.is("the fault is there", x.step(1), 1);
        Due.is("octet 0", x.bank(1, 1, 0), 9);
    }
}
