public final class Promise10CutTest {
    public static void main(String[] args) {
        Due.sentence("A CUT: how many controllers were ON.", Promise10CutTest::howManyWereOn);
        Due.sentence("A CUT", Promise10CutTest::aBlockOfEach);
        Due.end();
    }

    private static void howManyWereOn() {
        UpdatePacks x = new UpdatePacks();
        Due.is("without a controller", x.cut(), 0);
        for (int k = 1; k <= 8; k++) {
            x.controller(k);
        }
        x.silent(2, true);
        Due.is("eight, a SILENT one among them", x.cut(), 8);
        Due.is("once more", x.cut(), 0);
        x.boot(8);
        Due.is("the last", x.cut(), 1);
        x.boot(1);
        x.boot(2);
        x.boot(2);
        Due.is("two, one SILENT and booted twice", x.cut(), 2);
        UpdatePacks y = Made.controllers(1);
        y.cut();
        y.controller(2);
        Due.is("a new one alone", y.cut(), 1);
    }

    /** A package that is WRITING loses a block by each CUT, whether or not its controller was ON. */
    private static void aBlockOfEach() {
        UpdatePacks x = Made.controllers(2);
        Made.pack(x, 1, 1, 64);
        Made.pack(x, 2, 1, 64);
        Made.steps(x, 1, 1, 1, 1);
        Made.steps(x, 2, 1, 1, 1);
        x.silent(2, true);
        x.cut();
        x.boot(1);
        x.cut();
        x.boot(1);
        x.boot(2);
        x.silent(2, false);
        Made.steps(x, 1, 1, 1, 2);
        Made.steps(x, 2, 1, 1, 2);
    }
}
