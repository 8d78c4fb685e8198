public final class TermsControllersTest {
    public static void main(String[] args) {
        Due.sentence("CONTROLLERS are numbered from 1 on, at most 8", TermsControllersTest::numberedToEight);
        Due.sentence("each of a HARDWARE (1 .. 127)", TermsControllersTest::ofAHardware);
        Due.sentence("with two BANKS, 0 and 1, of 256 octets, at first all 0", TermsControllersTest::banksOfZeros);
        Due.sentence("each with an EDITION, at first 0", TermsControllersTest::editionZero);
        Due.sentence("bank 0 RUNS", TermsControllersTest::bankZeroRuns);
        Due.sentence("Its COUNTER is at first 0.", TermsControllersTest::counterZero);
        Due.sentence("Power is ON.", TermsControllersTest::powerOn);
        Due.end();
    }

    private static void numberedToEight() {
        UpdatePacks x = new UpdatePacks();
        for (int k = 1; k <= 8; k++) {
            Due.is("before: counter(" + k + ")", x.counter(k), -1);
            Due.is("controller " + k, x.controller(k), k);
            Due.is("then: counter(" + k + ")", x.counter(k), 0);
        }
        Due.is("a ninth", x.controller(1), -4);
        Due.is("counter(9)", x.counter(9), -1);
        Made.run(x, 8, 3);
        for (int k = 1; k <= 8; k++) {
            Due.is("only 8 runs another: " + k, x.boot(k), k == 8 ? 3 : 0);
        }
    }

    private static void ofAHardware() {
        for (int hardware = 1; hardware <= 127; hardware++) {
            UpdatePacks x = new UpdatePacks();
            Due.is("hardware " + hardware, x.controller(hardware), 1);
            x.octet((byte) hardware);
            Due.is("a package for it", x.package0(1, 1, true), 1);
        }
        UpdatePacks x = new UpdatePacks();
        Due.is("hardware 0", x.controller(0), -2);
        Due.is("hardware 128", x.controller(128), -2);
    }

    private static void banksOfZeros() {
        for (int b = 0; b < 2; b++) {
            UpdatePacks x = Made.controllers(1);
            for (int i = 0; i < 256; i++) {
                Due.is("bank(1, " + b + ", " + i + ")", x.bank(1, b, i), 0);
            }
        }
    }

    private static void editionZero() {
        UpdatePacks x = Made.controllers(1);
        Due.is("bank 0 as it runs", x.boot(1), 0);
        Made.run(x, 1, 7);
        Due.is("rollback()", x.rollback(), 1);
        Due.is("bank 0 as it runs again", x.boot(1), 0);
        Due.is("and the COUNTER with it", x.counter(1), 0);
    }

    private static void bankZeroRuns() {
        UpdatePacks x = Made.controllers(1);
        Made.ready(x, 1, 1);
        Due.is("written into bank 1", x.bank(1, 1, 0), 1);
        Due.is("not into bank 0", x.bank(1, 0, 0), 0);
    }

    private static void counterZero() {
        UpdatePacks x = Made.controllers(1);
        Due.is("counter(1)", x.counter(1), 0);
        Due.is("edition 1 is above it", Made.pack(x, 1, 1, 1), 1);
    }

    private static void powerOn() {
        UpdatePacks x = Made.controllers(1);
        Due.is("step(1)", x.step(1), 0);
        Due.is("cut()", x.cut(), 1);
        Due.is("one more after a cut", x.controller(2), 2);
        Due.is("it is ON", x.step(2), 0);
        Due.is("the first is OFF still", x.step(1), -3);
        Due.is("cut() again", x.cut(), 1);
    }
}
