public final class Promise14RollbackTest {
    public static void main(String[] args) {
        onlyOnce();
        allOfThem();
        notWhileOneIsAway(1, 2);
        notWhileOneIsAway(2, 1);
        notWithAnOpenPackage();
        othersDoNotMatter();
        aLowerEditionAfterwards();
        toTheEditionBefore();
        Due.end();
    }

    private static UpdatePacks pairThatRuns() {
        UpdatePacks x = Made.committedPair();
        x.step(1);
        x.step(2);
        return x;
    }

    private static void onlyOnce() {
        UpdatePacks x = Made.controllers(1);
        Due.is("none", x.rollback(), 0);
        Made.run(x, 1, 1);
        Due.is("rollback()", x.rollback(), 1);
        Due.is("rollback() again", x.rollback(), 0);
        Due.is("it runs bank 0", x.boot(1), 0);
        Due.is("counter", x.counter(1), 0);
        Due.is("the octets stay", x.bank(1, 1, 0), 1);
    }

    private static void allOfThem() {
        UpdatePacks x = pairThatRuns();
        Due.is("rollback()", x.rollback(), 1);
        for (int c = 1; c <= 2; c++) {
            Due.is("boot", x.boot(c), 0);
            Due.is("counter", x.counter(c), 0);
            Due.is("step", x.step(c), 0);
        }
        Due.is("joint()", x.joint(), 0);
    }

    private static void notWhileOneIsAway(int there, int away) {
        UpdatePacks x = pairThatRuns();
        x.silent(away, true);
        Due.is(away + " is SILENT", x.rollback(), 0);
        Due.is("1 stays", x.counter(1), 5);
        Due.is("2 stays", x.counter(2), 6);
        x.silent(away, false);
        x.cut();
        x.boot(there);
        Due.is(away + " is OFF", x.rollback(), 0);
        Due.is("1 stays still", x.counter(1), 5);
        Due.is("2 stays still", x.counter(2), 6);
        x.boot(away);
        Due.is("rollback()", x.rollback(), 1);
    }

    private static void notWithAnOpenPackage() {
        UpdatePacks x = pairThatRuns();
        Made.pack(x, 2, 9, 1);
        Due.is("WRITING", x.rollback(), 0);
        x.step(2);
        Due.is("READY", x.rollback(), 0);
        int two = 3;
        int three = Made.ready(x, 3, 9);
        Due.is("needs", x.needs(two, three), 2);
        x.step(2);
        x.step(2);
        Due.is("SWITCHED", x.rollback(), 0);
        Due.is("3 switches", x.step(3), 3);
        Due.is("the new SET goes back", x.rollback(), 1);
        Due.is("2 to the edition before", x.counter(2), 6);
        Due.is("3 to nothing", x.counter(3), 0);
        Due.is("1 is not of it", x.counter(1), 5);
    }

    private static void othersDoNotMatter() {
        UpdatePacks x = pairThatRuns();
        Made.pack(x, 3, 1, 1);
        x.silent(3, true);
        x.cut();
        x.boot(1);
        x.boot(2);
        Due.is("3 is OFF and SILENT, with a package", x.rollback(), 1);
        Due.is("3 is not of it", x.boot(3), 0);
    }

    private static void aLowerEditionAfterwards() {
        UpdatePacks x = Made.controllers(1);
        Made.run(x, 1, 9);
        Due.is("not above the COUNTER", Made.pack(x, 1, 8, 1), -7);
        Due.is("rollback()", x.rollback(), 1);
        Due.is("above it now", x.package0(1, 8, true), 2);
    }

    private static void toTheEditionBefore() {
        UpdatePacks x = Made.controllers(1);
        Made.run(x, 1, 3);
        Made.run(x, 1, 4);
        Due.is("rollback()", x.rollback(), 1);
        Due.is("edition 3 runs", x.boot(1), 3);
        Due.is("counter", x.counter(1), 3);
        Due.is("no second time", x.rollback(), 0);
        Made.run(x, 1, 6);
        Due.is("a new one goes back too", x.rollback(), 1);
        Due.is("edition 3 runs again", x.boot(1), 3);
    }
}
