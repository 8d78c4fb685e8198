public final class Promise02ControllerTest {
    public static void main(String[] args) {
        UpdatePacks x = new UpdatePacks();
        Due.is("controller(0)", x.controller(0), -2);
        Due.is("controller(-1)", x.controller(-1), -2);
        Due.is("controller(128)", x.controller(128), -2);
        Due.is("controller(least)", x.controller(Integer.MIN_VALUE), -2);
        Due.is("controller(most)", x.controller(Integer.MAX_VALUE), -2);
        Due.is("controller(257)", x.controller(257), -2);
        Due.is("controller(1)", x.controller(1), 1);
        Due.is("controller(127)", x.controller(127), 2);
        for (int k = 3; k <= 8; k++) {
            Due.is("controller(127) again", x.controller(127), k);
        }
        Due.is("a ninth", x.controller(5), -4);
        Due.is("a ninth without hardware", x.controller(0), -2);
        Due.is("step(8)", x.step(8), 0);
        Due.is("step(9)", x.step(9), -1);
        beginsAsTold();
        Due.end();
    }

    private static void beginsAsTold() {
        UpdatePacks x = Made.controllers(1);
        x.cut();
        Due.is("controller after a cut", x.controller(9), 2);
        Due.is("it is ON", x.step(2), 0);
        Due.is("counter(2)", x.counter(2), 0);
        Due.is("bank 0 has edition 0", x.boot(2), 0);
        for (int b = 0; b < 2; b++) {
            // Every fifth: an object is used for at most 512 calls.
            for (int i = 0; i < 256; i += 5) {
                Due.is("bank(2, " + b + ", " + i + ")", x.bank(2, b, i), 0);
            }
        }
        Due.is("not silent", x.silent(2, false), 0);
    }
}
