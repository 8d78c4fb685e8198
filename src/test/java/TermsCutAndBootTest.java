public final class TermsCutAndBootTest {
    private static final int LENGTH_ONE = 33;
    private static final int LENGTH_TWO = 20;

    public static void main(String[] args) {
        Due.sentence("A CUT: all controllers are OFF", TermsCutAndBootTest::allAreOff);
        Due.sentence("of each package that is WRITING one block less is written", TermsCutAndBootTest::oneBlockLess);
        Due.sentence("(if one was)", TermsCutAndBootTest::ifOneWas);
        Due.sentence("of each package that is WRITING", TermsCutAndBootTest::noOtherState);
        Due.sentence("A CUT: all controllers are OFF; of each package", TermsCutAndBootTest::nothingElseIsLost);
        Due.sentence("BOOTING a controller that is OFF: it is ON", TermsCutAndBootTest::onAgain);
        Due.sentence("BOOTING a controller that is OFF", TermsCutAndBootTest::onlyOneThatIsOff);
        Due.sentence("if its package is READY and its SET COMMITTED", TermsCutAndBootTest::onlyCommitted);
        Due.sentence("it SWITCHES at once", TermsCutAndBootTest::switchesAtOnce);
        Due.sentence("power that may be cut between any two steps", TermsCutAndBootTest::betweenAnyTwoSteps);
        Due.end();
    }

    private static void allAreOff() {
        UpdatePacks x = Made.controllers(8);
        x.silent(8, true);
        Due.is("cut()", x.cut(), 8);
        x.silent(8, false);
        for (int k = 1; k <= 8; k++) {
            Due.is("step(" + k + ")", x.step(k), -3);
        }
    }

    /** The octets are 256, so many blocks are written, then comes a cut: what is left to write shows. */
    private static void oneBlockLess() {
        for (int written = 1; written <= 15; written++) {
            UpdatePacks x = Made.controllers(2);
            Made.pack(x, 1, 1, 256);
            Made.pack(x, 2, 1, 17);
            for (int n = 0; n < written; n++) {
                Due.is("block " + n, x.step(1), 1);
            }
            Due.is("block 0 of 2", x.step(2), 1);
            x.cut();
            x.boot(1);
            x.boot(2);
            for (int n = written - 1; n < 16; n++) {
                Due.is("block " + n + " after a cut behind " + written, x.step(1), n == 15 ? 2 : 1);
            }
            Made.steps(x, 2, 1, 2);
        }
    }

    private static void ifOneWas() {
        UpdatePacks x = Made.controllers(1);
        Made.pack(x, 1, 1, 32);
        x.cut();
        x.cut();
        x.boot(1);
        Due.is("block 0", x.step(1), 1);
        Due.is("octet 0", x.bank(1, 1, 0), 1);
        x.cut();
        x.cut();
        x.boot(1);
        Due.is("block 0 again", x.step(1), 1);
        Due.is("octet 16", x.bank(1, 1, 16), 0);
        Due.is("block 1", x.step(1), 2);
    }

    private static void noOtherState() {
        UpdatePacks x = Made.controllers(3);
        Made.pack(x, 1, 5, 17);
        Made.pack(x, 2, 6, 17);
        Made.steps(x, 1, 1, 2);
        Made.steps(x, 2, 1, 2);
        x.cut();
        x.boot(1);
        x.boot(2);
        Due.is("READY as before", x.needs(1, 2), 2);
        Made.steps(x, 1, 2, 3);
        x.cut();
        x.boot(1);
        Made.steps(x, 1, 3);
        Due.is("COMMITTED as before", x.boot(2), 6);
        x.cut();
        x.boot(1);
        Made.steps(x, 1, 0);
        Due.is("the LAST SET as before", x.joint(), 1);
    }

    private static void nothingElseIsLost() {
        UpdatePacks x = Made.controllers(2);
        Made.run(x, 2, 3);
        Made.pack(x, 1, 1, 32);
        Made.steps(x, 1, 1);
        byte digest = x.digest(0);
        x.block(1, 1, (byte) 4);
        x.silent(2, true);
        x.condition(1, false);
        x.octet((byte) 1);
        x.cut();
        Due.is("octets of a block that counts no more", x.bank(1, 1, 15), Made.octet(1, 15));
        Due.is("the digest", x.digest(0), digest);
        Due.is("SILENT", x.silent(2, true), 0);
        Due.is("the LAST SET", x.joint(), 1);
        Due.is("the COUNTER", x.counter(2), 3);
        x.boot(1);
        Due.is("the CONDITION", x.condition(0, true), 0);
        x.condition(1, true);
        Made.steps(x, 1, 1, 1);
        Due.is("the FAULT", x.bank(1, 1, 16), (byte) (Made.octet(1, 16) ^ 4));
        Due.is("the octet for the next", x.package0(1, 2, true), 3);
    }

    private static void onAgain() {
        UpdatePacks x = Made.controllers(3);
        x.cut();
        Due.is("boot(2)", x.boot(2), 0);
        Due.is("2 is ON", x.step(2), 0);
        Due.is("1 is not", x.step(1), -3);
        Due.is("3 is not", x.step(3), -3);
        Due.is("cut()", x.cut(), 1);
    }

    private static void onlyOneThatIsOff() {
        UpdatePacks x = Made.committedPair();
        Due.is("ON: it does not switch", x.boot(1), 0);
        Due.is("nor once more", x.boot(1), 0);
        Due.is("it is READY still", x.counter(1), 0);
        x.cut();
        Due.is("OFF: it does", x.boot(1), 5);
        Due.is("ON again: not back", x.boot(1), 5);
    }

    private static void onlyCommitted() {
        UpdatePacks x = Made.readyPair();
        Made.pack(x, 3, 1, 17);
        x.cut();
        Due.is("READY", x.boot(1), 0);
        Due.is("READY too", x.boot(2), 0);
        Due.is("WRITING", x.boot(3), 0);
        Made.steps(x, 1, 2, 3);
        x.cut();
        Due.is("SWITCHED: it runs on", x.boot(1), 5);
        Made.steps(x, 1, 3);
        Due.is("COMMITTED", x.boot(2), 6);
        x.cut();
        Due.is("IDLE", x.boot(2), 6);
    }

    private static void switchesAtOnce() {
        UpdatePacks x = Made.committedPair();
        x.condition(0, false);
        x.silent(2, true);
        x.cut();
        Due.is("while no CONDITION holds", x.boot(1), 5);
        Due.is("its COUNTER", x.counter(1), 5);
        Due.is("SWITCHED", x.step(1), 3);
        Due.is("the SET is not whole", x.joint(), 0);
        Due.is("a SILENT one too", x.boot(2), 6);
        Due.is("its COUNTER", x.counter(2), 6);
        Due.is("the SET is whole", x.joint(), 1);
        Due.is("IDLE", x.step(1), 0);
    }

    /** Two controllers in one SET take turns; a cut comes behind each step in turn. */
    private static void betweenAnyTwoSteps() {
        for (int cutAt = 0; cutAt <= 12; cutAt++) {
            UpdatePacks x = Made.controllers(2);
            int one = Made.pack(x, 1, 5, LENGTH_ONE);
            int two = Made.pack(x, 2, 6, LENGTH_TWO);
            x.needs(one, two);
            for (int k = 0; k < 16; k++) {
                if (k == cutAt) {
                    x.cut();
                    x.boot(2);
                    x.boot(1);
                }
                x.step(1 + k % 2);
            }
            isWhole(x, cutAt);
        }
    }

    private static void isWhole(UpdatePacks x, int cutAt) {
        Due.is("cut at " + cutAt + ": joint()", x.joint(), 1);
        Due.is("cut at " + cutAt + ": counter(1)", x.counter(1), 5);
        Due.is("cut at " + cutAt + ": counter(2)", x.counter(2), 6);
        for (int i = 0; i < 48; i++) {
            Due.is("octet " + i + " of 1", x.bank(1, 1, i), i < LENGTH_ONE ? Made.octet(1, i) : 0);
            Due.is("octet " + i + " of 2", x.bank(2, 1, i), i < LENGTH_TWO ? Made.octet(2, i) : 0);
        }
    }
}
