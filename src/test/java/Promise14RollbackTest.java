public final class Promise14RollbackTest {
    public static void main(String[] args) {
        Due.sentence("All controllers of the LAST SET go back", Promise14RollbackTest::allGoBack);
        Due.sentence("the other bank RUNS", Promise14RollbackTest::otherBankRuns);
        Due.sentence("the COUNTER is its EDITION", Promise14RollbackTest::counterIsItsEdition);
        Due.sentence("there is no LAST SET then: 1", Promise14RollbackTest::noLastSetThen);
        Due.sentence("0 if there is none", Promise14RollbackTest::thereIsNone);
        Due.sentence("or one of them is OFF", Promise14RollbackTest::oneIsOff);
        Due.sentence("SILENT", Promise14RollbackTest::oneIsSilent);
        Due.sentence("or has an OPEN package", Promise14RollbackTest::oneHasAPackage);
        Due.sentence("one of them", Promise14RollbackTest::othersDoNotMatter);
        Due.end();
    }

    private static void bothRun(String when, UpdatePacks x) {
        Due.is(when + ": counter(1)", x.counter(1), 5);
        Due.is(when + ": counter(2)", x.counter(2), 6);
        Due.is(when + ": joint()", x.joint(), 1);
    }

    private static void allGoBack() {
        UpdatePacks x = Made.pairThatRuns();
        Due.is("rollback()", x.rollback(), 1);
        for (int c = 1; c <= 2; c++) {
            Due.is("boot", x.boot(c), 0);
            Due.is("counter", x.counter(c), 0);
            Due.is("IDLE", x.step(c), 0);
        }
        UpdatePacks y = Made.controllers(8);
        for (int k = 1; k <= 8; k++) {
            Made.ready(y, k, k);
            if (k > 1) {
                Due.is("together", y.needs(k - 1, k), k);
            }
        }
        Due.is("COMMITTED", y.step(8), 2);
        for (int k = 1; k <= 8; k++) {
            Due.is("switch", y.step(k), 3);
        }
        Due.is("all eight", y.rollback(), 1);
        for (int k = 1; k <= 8; k++) {
            Due.is("went back", y.boot(k), 0);
        }
    }

    private static void otherBankRuns() {
        UpdatePacks x = Made.controllers(1);
        Made.run(x, 1, 3);
        Made.run(x, 1, 4);
        Due.is("edition 4 runs", x.boot(1), 4);
        Due.is("rollback()", x.rollback(), 1);
        Due.is("edition 3 runs", x.boot(1), 3);
        Due.is("the octets of both stay", x.bank(1, 0, 0) + x.bank(1, 1, 0), 2);
        Made.pack(x, 1, 6, 2);
        Made.steps(x, 1, 2);
        Due.is("bank 0 does not run: it is written", x.bank(1, 0, 1), Made.octet(1, 1));
        Due.is("bank 1 runs", x.bank(1, 1, 1), 0);
    }

    private static void counterIsItsEdition() {
        UpdatePacks x = Made.controllers(1);
        Made.run(x, 1, 3);
        Made.run(x, 1, 9);
        Due.is("not above the COUNTER", Made.pack(x, 1, 8, 1), -7);
        Due.is("rollback()", x.rollback(), 1);
        Due.is("the COUNTER", x.counter(1), 3);
        Due.is("not above it", x.package0(1, 3, true), -7);
        Due.is("above it now", x.package0(1, 4, true), 3);
    }

    private static void noLastSetThen() {
        UpdatePacks x = Made.controllers(2);
        Made.run(x, 1, 3);
        Made.run(x, 2, 4);
        Due.is("rollback()", x.rollback(), 1);
        Due.is("only once", x.rollback(), 0);
        Due.is("the SET before it is not the LAST one again", x.counter(1), 3);
        Due.is("2 went back", x.counter(2), 0);
        Due.is("joint()", x.joint(), 0);
        Made.run(x, 2, 6);
        Due.is("a new one goes back too", x.rollback(), 1);
        Due.is("2 went back again", x.counter(2), 0);
    }

    private static void thereIsNone() {
        UpdatePacks x = new UpdatePacks();
        Due.is("no controller", x.rollback(), 0);
        x = Made.readyPair();
        Due.is("READY", x.rollback(), 0);
        Made.steps(x, 1, 2);
        Due.is("COMMITTED", x.rollback(), 0);
        Made.steps(x, 1, 3);
        Due.is("one SWITCHED", x.rollback(), 0);
        Due.is("it runs", x.counter(1), 5);
        Made.steps(x, 2, 3);
        Due.is("both", x.rollback(), 1);
    }

    private static void oneIsOff() {
        for (int off = 1; off <= 2; off++) {
            UpdatePacks x = Made.pairThatRuns();
            x.cut();
            Due.is("both are OFF", x.rollback(), 0);
            x.boot(3 - off);
            Due.is(off + " is OFF", x.rollback(), 0);
            bothRun(off + " is OFF", x);
            x.boot(off);
            Due.is("none is", x.rollback(), 1);
        }
    }

    private static void oneIsSilent() {
        for (int silent = 1; silent <= 2; silent++) {
            UpdatePacks x = Made.pairThatRuns();
            x.silent(silent, true);
            Due.is(silent + " is SILENT", x.rollback(), 0);
            bothRun(silent + " is SILENT", x);
            x.silent(silent, false);
            Due.is("none is", x.rollback(), 1);
        }
    }

    private static void oneHasAPackage() {
        for (int c = 1; c <= 2; c++) {
            UpdatePacks x = Made.pairThatRuns();
            int number = Made.pack(x, c, 9, 1);
            Due.is("WRITING", x.rollback(), 0);
            Made.steps(x, c, 2);
            Due.is("READY", x.rollback(), 0);
            x.needs(number, Made.ready(x, 3, 9));
            Made.steps(x, c, 2);
            Due.is("COMMITTED", x.rollback(), 0);
            bothRun("COMMITTED", x);
            Made.steps(x, c, 3);
            Due.is("SWITCHED", x.rollback(), 0);
            Made.steps(x, 3, 3);
            Due.is("the new SET goes back", x.rollback(), 1);
            Due.is("3 to nothing", x.counter(3), 0);
            Due.is("1 is where it was", x.counter(1), 5);
            Due.is("2 is where it was", x.counter(2), 6);
        }
    }

    private static void othersDoNotMatter() {
        UpdatePacks x = Made.pairThatRuns();
        Made.pack(x, 3, 1, 1);
        x.silent(3, true);
        x.cut();
        x.boot(1);
        x.boot(2);
        Due.is("3 is OFF and SILENT, with a package", x.rollback(), 1);
        Due.is("3 is not of it", x.boot(3), 0);
    }
}
