public final class Promise06NeedsTest {
    public static void main(String[] args) {
        Due.sentence("Two OPEN packages go TOGETHER", Promise06NeedsTest::goTogether);
        Due.sentence("how many their SET has", Promise06NeedsTest::howMany);
        Due.sentence("-1 there is no such package", Promise06NeedsTest::noSuchPackage);
        Due.sentence("-2 they are one", Promise06NeedsTest::theyAreOne);
        Due.sentence("-3 one of them is not OPEN", Promise06NeedsTest::notOpen);
        Due.sentence("or its SET is COMMITTED", Promise06NeedsTest::committed);
        Due.end();
    }

    private static void goTogether() {
        UpdatePacks x = Made.controllers(2);
        Made.ready(x, 1, 1);
        Made.pack(x, 2, 1, 1);
        Due.is("needs(1, 2)", x.needs(1, 2), 2);
        Due.is("1 waits", x.step(1), 2);
        Due.is("1 still waits", x.step(1), 2);
        Due.is("it does not run", x.counter(1), 0);
        Due.is("2 is READY", x.step(2), 2);
        Due.is("COMMITTED", x.step(2), 2);
        Due.is("1 switches", x.step(1), 3);
        UpdatePacks y = Made.controllers(2);
        Made.ready(y, 1, 1);
        Made.pack(y, 2, 1, 1);
        Due.is("not together: commit", y.step(1), 2);
        Due.is("not together: switch", y.step(1), 3);
    }

    private static void howMany() {
        UpdatePacks x = Made.controllers(8);
        for (int k = 1; k <= 8; k++) {
            Made.pack(x, k, 1, 1);
        }
        Due.is("needs(1, 2)", x.needs(1, 2), 2);
        Due.is("needs(2, 1)", x.needs(2, 1), 2);
        Due.is("needs(3, 4)", x.needs(3, 4), 2);
        Due.is("needs(5, 4)", x.needs(5, 4), 3);
        Due.is("needs(1, 5)", x.needs(1, 5), 5);
        Due.is("needs(3, 2)", x.needs(3, 2), 5);
        Due.is("needs(6, 7)", x.needs(6, 7), 2);
        Due.is("needs(7, 3)", x.needs(7, 3), 7);
        Due.is("needs(8, 6)", x.needs(8, 6), 8);
        Due.is("needs(8, 1)", x.needs(8, 1), 8);
        Made.pack(x, 3, 1, 1);
        Due.is("3 went out", x.needs(8, 1), 7);
    }

    private static void noSuchPackage() {
        UpdatePacks x = Made.controllers(2);
        Made.pack(x, 1, 1, 1);
        Made.pack(x, 2, 1, 1);
        for (int p : new int[] {0, -1, 3, 60, 61, 257, Integer.MIN_VALUE, Integer.MIN_VALUE + 1, Integer.MAX_VALUE}) {
            Due.is("needs(" + p + ", 2)", x.needs(p, 2), -1);
            Due.is("needs(2, " + p + ")", x.needs(2, p), -1);
            Due.is("needs(" + p + ", " + p + ")", x.needs(p, p), -1);
        }
        Made.pack(x, 2, 1, 1);
        Due.is("3 is there now", x.needs(1, 3), 2);
        Due.is("one that is not OPEN, and one that is none", x.needs(2, 4), -1);
        Due.is("the other way round", x.needs(4, 2), -1);
    }

    private static void theyAreOne() {
        UpdatePacks x = Made.controllers(2);
        Made.run(x, 1, 1);
        Made.pack(x, 2, 1, 1);
        Due.is("OPEN", x.needs(2, 2), -2);
        Due.is("OPEN no more", x.needs(1, 1), -2);
        UpdatePacks y = Made.committedPair();
        Due.is("COMMITTED", y.needs(2, 2), -2);
    }

    private static void notOpen() {
        UpdatePacks x = Made.controllers(3);
        Made.run(x, 1, 1);
        Made.pack(x, 2, 1, 1);
        Made.pack(x, 3, 1, 1);
        Made.pack(x, 3, 1, 1);
        Due.is("switched long ago", x.needs(1, 2), -3);
        Due.is("the other way round", x.needs(2, 1), -3);
        Due.is("replaced", x.needs(3, 2), -3);
        Due.is("replaced, the other way round", x.needs(2, 3), -3);
        Due.is("both", x.needs(1, 3), -3);
        Made.pack(x, 1, 2, 1);
        Due.is("its controller has another", x.needs(1, 2), -3);
        Due.is("that one is OPEN", x.needs(5, 2), 2);
    }

    private static void committed() {
        UpdatePacks x = Made.committedPair();
        Made.pack(x, 3, 1, 1);
        Due.is("needs(1, 3)", x.needs(1, 3), -3);
        Due.is("needs(3, 2)", x.needs(3, 2), -3);
        Due.is("needs(1, 2)", x.needs(1, 2), -3);
        Due.is("step(1)", x.step(1), 3);
        Due.is("SWITCHED: needs(1, 3)", x.needs(1, 3), -3);
        Due.is("SWITCHED: needs(3, 1)", x.needs(3, 1), -3);
        Due.is("READY: needs(3, 2)", x.needs(3, 2), -3);
        UpdatePacks y = Made.readyPair();
        Made.pack(y, 3, 1, 1);
        Due.is("READY, but not COMMITTED", y.needs(3, 2), 3);
    }
}
