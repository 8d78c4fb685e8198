public final class TermsWritingTest {
    public static void main(String[] args) {
        Due.sentence("A STEP of a controller that is ON and not SILENT", TermsWritingTest::onAndNotSilent);
        Due.sentence("WRITING, while both CONDITIONS hold", TermsWritingTest::whileBothHold);
        Due.sentence("its next block is written", TermsWritingTest::nextBlockAlone);
        Due.sentence("into the bank that does not RUN", TermsWritingTest::bankThatDoesNotRun);
        Due.sentence("If a FAULT is told for that block", TermsWritingTest::forThatBlockAlone);
        Due.sentence("its octets are xor the FAULT's there", TermsWritingTest::octetsXor);
        Due.sentence("the FAULT is gone", TermsWritingTest::faultIsGone);
        Due.sentence("and the block counts as not written", TermsWritingTest::countsAsNotWritten);
        Due.sentence("Otherwise, with the last block", TermsWritingTest::notWithAFaultyLastBlock);
        Due.sentence("the bank's other octets become 0", TermsWritingTest::otherOctetsBecomeZero);
        Due.sentence("its EDITION is the package's", TermsWritingTest::editionOfThePackage);
        Due.sentence("and the package is READY", TermsWritingTest::readyWithTheLastBlock);
        Due.end();
    }

    private static void onAndNotSilent() {
        UpdatePacks x = Made.controllers(1);
        Made.pack(x, 1, 1, 17);
        x.silent(1, true);
        Due.is("SILENT", x.step(1), -3);
        Due.is("nothing was written", x.bank(1, 1, 0), 0);
        x.cut();
        Due.is("SILENT and OFF", x.step(1), -3);
        x.silent(1, false);
        Due.is("OFF", x.step(1), -3);
        Due.is("nothing was written still", x.bank(1, 1, 0), 0);
        x.boot(1);
        Made.steps(x, 1, 1, 2);
    }

    private static void whileBothHold() {
        for (int which = 0; which < 3; which++) {
            UpdatePacks x = Made.controllers(1);
            Made.pack(x, 1, 1, 17);
            Due.is("block 0", x.step(1), 1);
            x.condition(0, which == 0);
            x.condition(1, which == 1);
            Made.steps(x, 1, 1, 1, 1);
            Due.is("block 1 is not written", x.bank(1, 1, 16), 0);
            x.condition(0, true);
            x.condition(1, true);
            Due.is("it is with both", x.step(1), 2);
            Due.is("octet 16", x.bank(1, 1, 16), Made.octet(1, 16));
        }
    }

    private static void nextBlockAlone() {
        UpdatePacks x = Made.controllers(2);
        Made.pack(x, 1, 1, 256);
        Made.pack(x, 2, 1, 40);
        for (int n = 0; n < 16; n++) {
            Due.is("block " + n, x.step(1), n == 15 ? 2 : 1);
            // At the block's two ends alone: an object is used for at most 512 calls.
            for (int i : new int[] {0, Math.max(0, 16 * n - 1), 16 * n, 16 * n + 15, Math.min(255, 16 * n + 16), 255}) {
                Due.is("octet " + i, x.bank(1, 1, i), i < 16 * n + 16 ? Made.octet(1, i) : 0);
            }
        }
        Due.is("another controller's is not written", x.bank(2, 1, 0), 0);
        behindItNothingChanges();
    }

    private static void behindItNothingChanges() {
        UpdatePacks x = Made.controllers(1);
        Made.pack(x, 1, 1, 49);
        Made.steps(x, 1, 1, 1, 1);
        for (int i = 0; i < 33; i++) {
            x.octet((byte) 1);
        }
        Due.is("instead of it", x.package0(1, 1, true), 2);
        Made.steps(x, 1, 1);
        for (int i = 0; i < 48; i++) {
            Due.is("octet " + i + " with block 0 anew", x.bank(1, 1, i), i < 16 ? 1 : Made.octet(1, i));
        }
        Made.steps(x, 1, 1);
        for (int i = 0; i < 48; i++) {
            Due.is("octet " + i + " with block 1 anew", x.bank(1, 1, i), i < 32 ? 1 : Made.octet(1, i));
        }
    }

    private static void bankThatDoesNotRun() {
        UpdatePacks x = Made.controllers(1);
        for (int edition = 1; edition <= 4; edition++) {
            int off = edition % 2;
            x.octet((byte) 1);
            x.octet((byte) (10 + edition));
            Due.is("package " + edition, x.package0(1, edition, true), edition);
            Due.is("written", x.step(1), 2);
            Due.is("the bank that does not run", x.bank(1, off, 1), 10 + edition);
            Due.is("the bank that runs", x.bank(1, 1 - off, 1), edition == 1 ? 0 : 9 + edition);
            Made.steps(x, 1, 2, 3);
        }
        Due.is("rollback()", x.rollback(), 1);
        x.octet((byte) 1);
        x.octet((byte) 99);
        Due.is("after going back", x.package0(1, 9, true), 5);
        Due.is("written", x.step(1), 2);
        Due.is("bank 0 does not run then", x.bank(1, 0, 1), 99);
        Due.is("bank 1 does", x.bank(1, 1, 1), 13);
    }

    private static void forThatBlockAlone() {
        for (int n = 0; n < 16; n++) {
            UpdatePacks x = Made.controllers(2);
            Made.pack(x, 1, 1, 250);
            Made.pack(x, 2, 1, 33);
            Due.is("block " + n, x.block(1, n, (byte) 0x5a), 1);
            Made.steps(x, 2, 1, 1, 2);
            for (int k = 0; k < 16; k++) {
                if (k == n) {
                    Due.is("with its fault: " + k, x.step(1), 1);
                }
                Due.is("written: " + k, x.step(1), k == 15 ? 2 : 1);
            }
        }
        UpdatePacks x = Made.controllers(1);
        Made.pack(x, 1, 1, 32);
        x.block(1, 2, (byte) 1);
        Made.steps(x, 1, 1, 2);
        Due.is("a block that the package has not", x.bank(1, 1, 32), 0);
    }

    private static void octetsXor() {
        for (int b : new int[] {1, 127, -1, -128, 0x5a}) {
            UpdatePacks x = Made.controllers(1);
            Made.pack(x, 1, 1, 40);
            x.block(1, 1, (byte) b);
            Made.steps(x, 1, 1, 1);
            isFlawed(x, b, 16, 32);
            x.block(1, 2, (byte) b);
            Made.steps(x, 1, 1, 1);
            isFlawed(x, b, 32, 40);
        }
    }

    private static void isFlawed(UpdatePacks x, int b, int from, int end) {
        for (int i = 0; i < 48; i++) {
            int octet = i < end ? Made.octet(1, i) : 0;
            boolean flawed = i >= from && i < end;
            Due.is("octet " + i + " with fault " + b, x.bank(1, 1, i), flawed ? (byte) (octet ^ b) : octet);
        }
    }

    private static void faultIsGone() {
        UpdatePacks x = Made.controllers(1);
        Made.pack(x, 1, 1, 17);
        x.block(1, 0, (byte) 3);
        Made.steps(x, 1, 1);
        Due.is("with the fault", x.bank(1, 1, 0), 1 ^ 3);
        Made.steps(x, 1, 1);
        Due.is("without it", x.bank(1, 1, 0), 1);
        x.cut();
        x.boot(1);
        Made.steps(x, 1, 1);
        Due.is("without it after a cut too", x.bank(1, 1, 0), 1);
        Made.steps(x, 1, 2);
    }

    private static void countsAsNotWritten() {
        UpdatePacks x = Made.controllers(1);
        Made.pack(x, 1, 1, 33);
        Made.steps(x, 1, 1);
        x.block(1, 1, (byte) 3);
        Made.steps(x, 1, 1);
        Due.is("block 2 waits", x.bank(1, 1, 32), 0);
        Made.steps(x, 1, 1);
        Due.is("block 1 is good", x.bank(1, 1, 16), Made.octet(1, 16));
        Due.is("block 2 waits still", x.bank(1, 1, 32), 0);
        Made.steps(x, 1, 2);
        UpdatePacks y = Made.controllers(1);
        Made.pack(y, 1, 1, 17);
        y.block(1, 0, (byte) 3);
        Made.steps(y, 1, 1);
        y.cut();
        y.boot(1);
        Due.is("a cut has none to take", y.step(1), 1);
        Due.is("block 1", y.step(1), 2);
    }

    private static void notWithAFaultyLastBlock() {
        UpdatePacks x = Made.controllers(1);
        Made.pack(x, 1, 1, 40);
        Made.steps(x, 1, 1, 1);
        Made.pack(x, 1, 2, 2);
        x.block(1, 0, (byte) 3);
        Due.is("not READY", x.step(1), 1);
        Due.is("the other octets stay", x.bank(1, 1, 2), Made.octet(1, 2));
        Due.is("those of another block too", x.bank(1, 1, 16), Made.octet(1, 16));
        Due.is("READY", x.step(1), 2);
        Due.is("the other octets are 0", x.bank(1, 1, 2), 0);
        Due.is("those of another block too", x.bank(1, 1, 16), 0);
    }

    /** The bank is full before; 192 at most, so that an object is used for no more than 512 calls. */
    private static void otherOctetsBecomeZero() {
        for (int count : new int[] {1, 15, 16, 17, 192}) {
            UpdatePacks x = Made.controllers(1);
            Made.pack(x, 1, 1, 256);
            for (int n = 0; n < 15; n++) {
                Due.is("a block of the one before", x.step(1), 1);
            }
            // A block with a fault: the bank is full then, and the package WRITING still.
            x.block(1, 15, (byte) 1);
            Due.is("a faulty one", x.step(1), 1);
            replace(x, count);
            for (int i : new int[] {count - 1, count, count + 1, count + 15, count + 16, 254, 255}) {
                Due.is("octet " + i + " behind " + count, x.bank(1, 1, i), i < count ? 1 : 0);
            }
        }
    }

    /** Another package of octets that are all 1, written. */
    private static void replace(UpdatePacks x, int count) {
        for (int i = 0; i < count; i++) {
            x.octet((byte) 1);
        }
        Due.is("package0", x.package0(1, 1, true), 2);
        for (int end = 16; end < count; end += 16) {
            Due.is("a block", x.step(1), 1);
        }
        Due.is("nothing becomes 0 before the last block", x.bank(1, 1, 255), (byte) (Made.octet(1, 255) ^ 1));
        Due.is("the last block", x.step(1), 2);
    }

    private static void editionOfThePackage() {
        for (int edition : new int[] {1, 2, 127, 128, 255, 256, 999, 1000}) {
            UpdatePacks x = Made.controllers(1);
            Made.run(x, 1, edition);
            Due.is("the edition that runs", x.boot(1), edition);
        }
        UpdatePacks x = Made.controllers(1);
        Made.pack(x, 1, 9, 17);
        Made.steps(x, 1, 1);
        Made.run(x, 1, 4);
        Due.is("not that of one that was not written whole", x.boot(1), 4);
    }

    private static void readyWithTheLastBlock() {
        UpdatePacks x = Made.controllers(1);
        Made.pack(x, 1, 1, 256);
        Made.steps(x, 1, 1, 1, 1, 1, 1, 1, 1, 1, 1, 1, 1, 1, 1, 1, 1, 2);
        Due.is("READY, so it is not written anew", Made.pack(x, 1, 2, 1), -3);
    }
}
