public final class Promise07BlockTest {
    public static void main(String[] args) {
        Due.sentence("A FAULT for block n (from 0 on) of a controller's package", Promise07BlockTest::forBlockN);
        Due.sentence("instead of one told before for any block: 1", Promise07BlockTest::insteadOfOneBefore);
        Due.sentence("of a controller's package", Promise07BlockTest::waitsForItsBlock);
        Due.sentence("-1 there is no controller", Promise07BlockTest::noController);
        Due.sentence("-2 n is not 0 .. 15", Promise07BlockTest::noSuchBlock);
        Due.sentence("or b is 0", Promise07BlockTest::faultOfZero);
        Due.end();
    }

    /** 250 octets: 16 blocks, the last one of 10. */
    private static void forBlockN() {
        for (int n = 0; n < 16; n++) {
            UpdatePacks x = Made.controllers(1);
            Made.pack(x, 1, 1, 250);
            Due.is("block", x.block(1, n, (byte) 0x5a), 1);
            for (int k = 0; k < n; k++) {
                Due.is("a block before", x.step(1), 1);
            }
            Due.is("the faulty block " + n, x.step(1), 1);
            // From the block before on: an object is used for at most 512 calls.
            for (int i = Math.max(0, 16 * n - 16); i < Math.min(256, 16 * n + 48); i++) {
                int good = i < 250 && i < 16 * n + 16 ? Made.octet(1, i) : 0;
                boolean bad = i < 250 && i / 16 == n;
                Due.is("octet " + i + " with block " + n + " faulty", x.bank(1, 1, i), bad ? (byte) (good ^ 0x5a) : good);
            }
            Due.is("block " + n + " again", x.step(1), n == 15 ? 2 : 1);
            Due.is("is good now", x.bank(1, 1, 16 * n), Made.octet(1, 16 * n));
        }
    }

    private static void insteadOfOneBefore() {
        UpdatePacks x = Made.controllers(2);
        Made.pack(x, 1, 1, 32);
        Made.pack(x, 2, 1, 16);
        Due.is("for block 0", x.block(1, 0, (byte) 1), 1);
        Due.is("for block 1 instead", x.block(1, 1, (byte) 2), 1);
        Due.is("block 0 has no fault", x.step(1), 1);
        Due.is("octet 0", x.bank(1, 1, 0), 1);
        Due.is("for the same block", x.block(1, 1, (byte) 4), 1);
        Due.is("block 1 has one", x.step(1), 1);
        Due.is("octet 16", x.bank(1, 1, 16), (byte) (Made.octet(1, 16) ^ 4));
        Due.is("block 1 again", x.step(1), 2);
        Due.is("another controller has none", x.step(2), 2);
        UpdatePacks y = Made.controllers(1);
        Made.pack(y, 1, 1, 32);
        y.block(1, 1, (byte) 1);
        y.block(1, 0, (byte) 1);
        Made.steps(y, 1, 1, 1, 2);
    }

    /** The document refuses no FAULT for want of a package: it stays until a package writes its block. */
    private static void waitsForItsBlock() {
        UpdatePacks x = Made.controllers(1);
        Due.is("without a package", x.block(1, 1, (byte) 4), 1);
        Made.run(x, 1, 1);
        Made.pack(x, 1, 2, 17);
        Due.is("block 0", x.step(1), 1);
        Due.is("block 1 has the fault", x.step(1), 1);
        Due.is("block 1 again", x.step(1), 2);
        Due.is("while READY, and OFF", x.cut(), 1);
        Due.is("it may be told", x.block(1, 0, (byte) 4), 1);
        x.boot(1);
        Made.steps(x, 1, 2, 3);
        Made.pack(x, 1, 3, 1);
        Due.is("the next package meets it", x.step(1), 1);
        Due.is("once", x.step(1), 2);
        UpdatePacks y = Made.controllers(1);
        Made.pack(y, 1, 1, 17);
        y.block(1, 0, (byte) 4);
        Made.pack(y, 1, 1, 17);
        Due.is("a package instead of another meets it", y.step(1), 1);
        Made.steps(y, 1, 1, 2);
    }

    private static void noController() {
        UpdatePacks x = Made.controllers(1);
        for (int c : Made.noController(1)) {
            Due.is("block(" + c + ")", x.block(c, 0, (byte) 1), -1);
        }
        Made.pack(x, 1, 1, 1);
        Due.is("no fault is told", x.step(1), 2);
    }

    private static void noSuchBlock() {
        UpdatePacks x = Made.controllers(1);
        Made.pack(x, 1, 1, 1);
        x.block(1, 0, (byte) 8);
        for (int n : new int[] {-1, -16, 16, 17, 256, Integer.MIN_VALUE, Integer.MAX_VALUE}) {
            Due.is("block(1, " + n + ")", x.block(1, n, (byte) 1), -2);
        }
        Due.is("the fault before is there", x.step(1), 1);
        Due.is("octet 0", x.bank(1, 1, 0), 9);
        Due.is("the first block", x.block(1, 0, (byte) 1), 1);
        Due.is("the last block", x.block(1, 15, (byte) 1), 1);
    }

    private static void faultOfZero() {
        UpdatePacks x = Made.controllers(1);
        Made.pack(x, 1, 1, 1);
        x.block(1, 0, (byte) 8);
        Due.is("0 for the same block", x.block(1, 0, (byte) 0), -2);
        Due.is("0 for another", x.block(1, 15, (byte) 0), -2);
        Due.is("the fault before is there", x.step(1), 1);
        Due.is("octet 0", x.bank(1, 1, 0), 9);
        for (int b : new int[] {1, -1, 127, -128}) {
            Due.is("a fault of " + b, x.block(1, 0, (byte) b), 1);
            Due.is("strikes", x.step(1), 1);
        }
        Due.is("and is gone", x.step(1), 2);
    }
}
