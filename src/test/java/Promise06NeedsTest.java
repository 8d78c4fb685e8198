public final class Promise06NeedsTest {
    public static void main(String[] args) {
        refusals();
        setsGrow();
        readyOnesToo();
        notWhenCommitted();
        waitForOneAnother();
        Due.end();
    }

    private static void refusals() {
        UpdatePacks x = Made.controllers(2);
        Made.run(x, 1, 1);
        Made.pack(x, 2, 1, 1);
        for (int p : new int[] {0, -1, 3, Integer.MIN_VALUE, Integer.MAX_VALUE}) {
            Due.is("needs(" + p + ", 2)", x.needs(p, 2), -1);
            Due.is("needs(2, " + p + ")", x.needs(2, p), -1);
            Due.is("needs(" + p + ", " + p + ")", x.needs(p, p), -1);
        }
        Due.is("needs(2, 2)", x.needs(2, 2), -2);
        Due.is("needs(1, 1), no more OPEN", x.needs(1, 1), -2);
        Due.is("needs(1, 2)", x.needs(1, 2), -3);
        Due.is("needs(2, 1)", x.needs(2, 1), -3);
    }

    private static void setsGrow() {
        UpdatePacks x = Made.controllers(8);
        for (int k = 1; k <= 8; k++) {
            Made.pack(x, k, 1, 1);
        }
        Due.is("needs(1, 2)", x.needs(1, 2), 2);
        Due.is("needs(2, 1)", x.needs(2, 1), 2);
        Due.is("needs(3, 4)", x.needs(3, 4), 2);
        Due.is("needs(5, 4)", x.needs(5, 4), 3);
        Due.is("needs(1, 5)", x.needs(1, 5), 5);
        Due.is("needs(3, 2)", x.needs(3, 2), 5);
        Due.is("needs(6, 7)", x.needs(6, 7), 2);
        Due.is("needs(7, 3)", x.needs(7, 3), 7);
        Due.is("needs(8, 6)", x.needs(8, 6), 8);
    }

    private static void readyOnesToo() {
        UpdatePacks x = Made.controllers(2);
        Made.ready(x, 1, 1);
        Made.pack(x, 2, 1, 1);
        Due.is("READY with WRITING", x.needs(1, 2), 2);
    }

    private static void notWhenCommitted() {
        UpdatePacks x = Made.committedPair();
        Made.pack(x, 3, 1, 1);
        Due.is("needs(1, 3)", x.needs(1, 3), -3);
        Due.is("needs(3, 2)", x.needs(3, 2), -3);
        Due.is("needs(1, 2)", x.needs(1, 2), -3);
        Due.is("step(1)", x.step(1), 3);
        Due.is("SWITCHED: needs(1, 3)", x.needs(1, 3), -3);
        Due.is("READY: needs(3, 2)", x.needs(3, 2), -3);
    }

    private static void waitForOneAnother() {
        UpdatePacks x = Made.controllers(2);
        Made.ready(x, 1, 1);
        Made.pack(x, 2, 1, 1);
        Due.is("needs(1, 2)", x.needs(1, 2), 2);
        Due.is("1 waits", x.step(1), 2);
        Due.is("1 still waits", x.step(1), 2);
        Due.is("it does not run", x.counter(1), 0);
        Due.is("2 is READY", x.step(2), 2);
        Due.is("COMMITTED", x.step(2), 2);
        Due.is("1 switches", x.step(1), 3);
    }
}
