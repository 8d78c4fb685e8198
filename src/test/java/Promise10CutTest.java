public final class Promise10CutTest {
    public static void main(String[] args) {
        howManyWereOn();
        oneBlockLess();
        twoCutsTwoBlocks();
        readyStaysReady();
        committedStaysCommitted();
        aSilentOneToo();
        Due.end();
    }

    private static void howManyWereOn() {
        UpdatePacks x = Made.controllers(3);
        Due.is("cut()", x.cut(), 3);
        Due.is("cut() again", x.cut(), 0);
        x.boot(2);
        x.boot(3);
        Due.is("cut() with two", x.cut(), 2);
        x.controller(9);
        Due.is("cut() with a new one", x.cut(), 1);
    }

    private static void oneBlockLess() {
        UpdatePacks x = Made.controllers(2);
        Made.pack(x, 1, 1, 48);
        Made.pack(x, 2, 1, 32);
        x.step(1);
        x.step(1);
        x.cut();
        x.boot(1);
        x.boot(2);
        Due.is("octets stay", x.bank(1, 1, 16), Made.octet(1, 16));
        Due.is("block 1 once more", x.step(1), 1);
        Due.is("block 2", x.step(1), 2);
        Due.is("where none was written: block 0", x.step(2), 1);
        Due.is("block 1", x.step(2), 2);
    }

    /** The document takes a block from each package that is WRITING, whether or not its controller was ON. */
    private static void twoCutsTwoBlocks() {
        UpdatePacks x = Made.controllers(1);
        Made.pack(x, 1, 1, 64);
        x.step(1);
        x.step(1);
        x.step(1);
        x.cut();
        x.cut();
        x.boot(1);
        Due.is("block 1", x.step(1), 1);
        Due.is("block 2", x.step(1), 1);
        Due.is("block 3", x.step(1), 2);
    }

    private static void readyStaysReady() {
        UpdatePacks x = Made.controllers(1);
        Made.ready(x, 1, 1);
        x.cut();
        Due.is("not COMMITTED, so it does not switch", x.boot(1), 0);
        Due.is("commit", x.step(1), 2);
        Due.is("switch", x.step(1), 3);
    }

    private static void committedStaysCommitted() {
        UpdatePacks x = Made.committedPair();
        x.cut();
        x.cut();
        Due.is("1 switches", x.boot(1), 5);
        Due.is("2 switches", x.boot(2), 6);
        Due.is("joint()", x.joint(), 1);
    }

    private static void aSilentOneToo() {
        UpdatePacks x = Made.controllers(1);
        Made.pack(x, 1, 1, 32);
        x.step(1);
        x.silent(1, true);
        Due.is("it was ON", x.cut(), 1);
        x.boot(1);
        x.silent(1, false);
        Due.is("block 0 once more", x.step(1), 1);
        Due.is("block 1", x.step(1), 2);
    }
}
