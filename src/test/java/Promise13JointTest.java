public final class Promise13JointTest {
    public static void main(String[] args) {
        whileASetSwitches();
        offAndSilentRunToo();
        oneRunsAnother();
        theLastOneCounts();
        Due.end();
    }

    private static void whileASetSwitches() {
        UpdatePacks x = Made.controllers(2);
        Due.is("none", x.joint(), 0);
        x = Made.committedPair();
        Due.is("COMMITTED", x.joint(), 0);
        x.step(1);
        Due.is("one SWITCHED", x.joint(), 0);
        x.step(2);
        Due.is("both", x.joint(), 1);
        Due.is("rollback()", x.rollback(), 1);
        Due.is("none after that", x.joint(), 0);
    }

    private static void offAndSilentRunToo() {
        UpdatePacks x = Made.controllers(1);
        Made.run(x, 1, 1);
        x.silent(1, true);
        x.cut();
        Due.is("OFF and SILENT", x.joint(), 1);
    }

    private static void oneRunsAnother() {
        UpdatePacks x = Made.committedPair();
        x.step(1);
        x.step(2);
        int one = Made.ready(x, 1, 7);
        Due.is("READY does not run", x.joint(), 1);
        int three = Made.ready(x, 3, 7);
        x.needs(one, three);
        Due.is("commit", x.step(1), 2);
        Due.is("COMMITTED does not run", x.joint(), 1);
        Due.is("1 switches", x.step(1), 3);
        Due.is("1 runs a package of another SET", x.joint(), 0);
        Due.is("3 switches", x.step(3), 3);
        Due.is("that SET is the LAST one", x.joint(), 1);
    }

    private static void theLastOneCounts() {
        UpdatePacks x = Made.controllers(2);
        Made.run(x, 1, 1);
        Made.run(x, 2, 1);
        Due.is("joint()", x.joint(), 1);
        Due.is("rollback()", x.rollback(), 1);
        Due.is("2 went back", x.boot(2), 0);
        Due.is("1 did not", x.boot(1), 1);
        Due.is("no LAST SET", x.joint(), 0);
    }
}
