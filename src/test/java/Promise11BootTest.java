public final class Promise11BootTest {
    public static void main(String[] args) {
        Due.sentence("A controller BOOTS, if it is OFF", Promise11BootTest::ifItIsOff);
        Due.sentence("the EDITION of the bank that RUNS", Promise11BootTest::editionThatRuns);
        Due.sentence("A controller BOOTS", Promise11BootTest::itselfAlone);
        Due.sentence("-1 there is none", Promise11BootTest::thereIsNone);
        Due.end();
    }

    private static void ifItIsOff() {
        UpdatePacks x = Made.committedPair();
        Due.is("ON, so it does not switch", x.boot(1), 0);
        Due.is("a step does", x.step(1), 3);
        Due.is("SWITCHED runs", x.boot(1), 5);
        x.cut();
        Due.is("OFF, so it switches", x.boot(2), 6);
        Due.is("1 is OFF still", x.step(1), -3);
        Due.is("1 runs on", x.boot(1), 5);
        Due.is("1 is ON", x.step(1), 0);
    }

    private static void editionThatRuns() {
        UpdatePacks x = Made.controllers(1);
        Due.is("at first", x.boot(1), 0);
        Made.ready(x, 1, 4);
        Due.is("READY", x.boot(1), 0);
        Made.steps(x, 1, 2);
        Due.is("COMMITTED", x.boot(1), 0);
        Made.steps(x, 1, 3);
        Due.is("SWITCHED", x.boot(1), 4);
        Made.run(x, 1, 1000);
        Due.is("the next", x.boot(1), 1000);
        x.cut();
        Due.is("when it was OFF", x.boot(1), 1000);
        x.silent(1, true);
        Due.is("when it is SILENT", x.boot(1), 1000);
        x.silent(1, false);
        x.rollback();
        Due.is("gone back", x.boot(1), 4);
    }

    private static void itselfAlone() {
        UpdatePacks x = Made.committedPair();
        x.cut();
        Due.is("1 switches", x.boot(1), 5);
        Due.is("2 is OFF", x.step(2), -3);
        Due.is("2 does not run", x.counter(2), 0);
        Due.is("one is ON", x.cut(), 1);
    }

    private static void thereIsNone() {
        UpdatePacks x = Made.controllers(1);
        x.cut();
        for (int c : Made.noController(1)) {
            Due.is("boot(" + c + ")", x.boot(c), -1);
        }
        Due.is("1 is OFF still", x.step(1), -3);
        Due.is("boot(1)", x.boot(1), 0);
    }
}
