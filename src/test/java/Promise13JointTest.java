public final class Promise13JointTest {
    public static void main(String[] args) {
        Due.sentence("1 if all controllers of the LAST SET run its packages", Promise13JointTest::allRun);
        Due.sentence("0 if not", Promise13JointTest::oneRunsAnother);
        Due.sentence("or there is none", Promise13JointTest::thereIsNone);
        Due.end();
    }

    private static void allRun() {
        UpdatePacks x = Made.pairThatRuns();
        Due.is("both", x.joint(), 1);
        Due.is("asked again", x.joint(), 1);
        x.silent(1, true);
        x.cut();
        Due.is("OFF and SILENT", x.joint(), 1);
        x.boot(1);
        x.boot(2);
        x.silent(1, false);
        Made.pack(x, 1, 9, 17);
        Made.steps(x, 1, 1);
        Due.is("one writes another", x.joint(), 1);
        Made.steps(x, 1, 2);
        Due.is("READY does not run", x.joint(), 1);
        Made.steps(x, 1, 2);
        Due.is("COMMITTED does not run", x.joint(), 1);
        Made.steps(x, 1, 3);
        Due.is("a new LAST SET, of one", x.joint(), 1);
    }

    /** Each of the two in turn runs a package of a SET that waits for controller 3 still. */
    private static void oneRunsAnother() {
        for (int c = 1; c <= 2; c++) {
            UpdatePacks x = Made.pairThatRuns();
            int one = Made.ready(x, c, 7);
            int three = Made.ready(x, 3, 7);
            x.needs(one, three);
            Made.steps(x, c, 2);
            Due.is("before it switches", x.joint(), 1);
            Made.steps(x, c, 3);
            Due.is(c + " runs a package of another SET", x.joint(), 0);
            Made.steps(x, 3, 3);
            Due.is("that SET is the LAST one", x.joint(), 1);
        }
    }

    private static void thereIsNone() {
        UpdatePacks x = new UpdatePacks();
        Due.is("no controller", x.joint(), 0);
        x = Made.readyPair();
        Due.is("READY", x.joint(), 0);
        Made.steps(x, 1, 2);
        Due.is("COMMITTED", x.joint(), 0);
        Made.steps(x, 1, 3);
        Due.is("one SWITCHED", x.joint(), 0);
        Made.steps(x, 2, 3);
        Due.is("both", x.joint(), 1);
        Due.is("rollback()", x.rollback(), 1);
        Due.is("gone back", x.joint(), 0);
        Made.run(x, 1, 1);
        Due.is("a new one", x.joint(), 1);
    }
}
