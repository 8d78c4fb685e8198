public final class Promise09StepTest {
    public static void main(String[] args) {
        Due.sentence("A STEP: the STATE then", Promise09StepTest::stateThen);
        Due.sentence("(3 if it SWITCHED by that)", Promise09StepTest::threeIfSwitched);
        Due.sentence("A STEP", Promise09StepTest::ofThatControllerAlone);
        Due.sentence("-1 there is no controller", Promise09StepTest::noController);
        Due.sentence("-3 it is OFF or SILENT", Promise09StepTest::offOrSilent);
        Due.end();
    }

    private static void stateThen() {
        UpdatePacks x = Made.controllers(2);
        Made.steps(x, 1, 0);
        Made.pack(x, 1, 1, 33);
        Made.pack(x, 2, 1, 1);
        x.needs(1, 2);
        x.condition(1, false);
        Made.steps(x, 1, 1);
        x.condition(1, true);
        Made.steps(x, 1, 1, 1, 2, 2);
        Made.steps(x, 2, 2, 2);
        x.condition(1, false);
        Made.steps(x, 1, 3, 3);
        Made.steps(x, 2, 3);
        Made.steps(x, 1, 0, 0);
    }

    private static void threeIfSwitched() {
        UpdatePacks x = Made.controllers(1);
        Made.ready(x, 1, 1);
        Due.is("COMMITTED", x.step(1), 2);
        Due.is("a SET of one is OPEN no more, and 3 all the same", x.step(1), 3);
        Due.is("IDLE", x.step(1), 0);
        UpdatePacks y = Made.committedPair();
        Due.is("the first of two", y.step(2), 3);
        Due.is("it stays SWITCHED", y.step(2), 3);
        Due.is("the second of two", y.step(1), 3);
        Due.is("IDLE", y.step(1), 0);
        Due.is("IDLE too", y.step(2), 0);
    }

    private static void ofThatControllerAlone() {
        UpdatePacks x = Made.controllers(3);
        for (int k = 1; k <= 3; k++) {
            Made.pack(x, k, 1, 17);
        }
        Made.steps(x, 2, 1, 2, 2, 3);
        Due.is("1 wrote nothing", x.bank(1, 1, 0), 0);
        Due.is("3 wrote nothing", x.bank(3, 1, 0), 0);
        Made.steps(x, 3, 1, 2);
        Made.steps(x, 1, 1, 2);
        Due.is("1 does not run", x.counter(1), 0);
        Due.is("2 does", x.counter(2), 1);
    }

    private static void noController() {
        UpdatePacks x = Made.controllers(1);
        for (int c : Made.noController(1)) {
            Due.is("step(" + c + ")", x.step(c), -1);
        }
        UpdatePacks y = Made.controllers(8);
        Due.is("step(8)", y.step(8), 0);
        Due.is("step(9)", y.step(9), -1);
    }

    private static void offOrSilent() {
        UpdatePacks x = Made.committedPair();
        x.silent(1, true);
        Due.is("SILENT", x.step(1), -3);
        Due.is("it did not switch", x.counter(1), 0);
        x.silent(1, false);
        x.cut();
        Due.is("OFF", x.step(1), -3);
        Due.is("it did not switch", x.counter(1), 0);
        x.silent(1, true);
        Due.is("OFF and SILENT", x.step(1), -3);
        Due.is("OFF and IDLE", x.step(3), -3);
        x.boot(3);
        x.silent(3, true);
        Due.is("SILENT and IDLE", x.step(3), -3);
        x.silent(3, false);
        Due.is("neither", x.step(3), 0);
        Due.is("booting switches", x.boot(1), 5);
        Due.is("SWITCHED and SILENT", x.step(1), -3);
        x.silent(1, false);
        Due.is("SWITCHED", x.step(1), 3);
    }
}
