public final class Promise15SilentTest {
    public static void main(String[] args) {
        Due.sentence("A controller is SILENT from now on, or not", Promise15SilentTest::fromNowOn);
        Due.sentence("1 if that is another way than before, 0 if not", Promise15SilentTest::anotherWayOrNot);
        Due.sentence("-1 there is none", Promise15SilentTest::thereIsNone);
        Due.end();
    }

    private static void fromNowOn() {
        UpdatePacks x = Made.controllers(2);
        x.silent(1, true);
        Made.steps(x, 1, -3, -3);
        Made.steps(x, 2, 0);
        x.cut();
        x.boot(1);
        Due.is("after a boot still", x.step(1), -3);
        x.silent(1, false);
        Made.steps(x, 1, 0, 0);
        x.silent(2, true);
        x.boot(2);
        Due.is("told while OFF", x.step(2), -3);
    }

    private static void anotherWayOrNot() {
        UpdatePacks x = Made.controllers(2);
        Due.is("not SILENT, as at first", x.silent(1, false), 0);
        Due.is("SILENT", x.silent(1, true), 1);
        Due.is("SILENT again", x.silent(1, true), 0);
        Due.is("another as at first", x.silent(2, false), 0);
        x.cut();
        Due.is("SILENT while OFF", x.silent(1, true), 0);
        Due.is("not SILENT", x.silent(1, false), 1);
        Due.is("not SILENT again", x.silent(1, false), 0);
        x.boot(1);
        Due.is("nor when it is ON", x.silent(1, false), 0);
    }

    private static void thereIsNone() {
        UpdatePacks x = Made.controllers(1);
        for (int c : Made.noController(1)) {
            Due.is("silent(" + c + ", true)", x.silent(c, true), -1);
            Due.is("silent(" + c + ", false)", x.silent(c, false), -1);
        }
        Due.is("a new one is not SILENT", x.controller(2), 2);
        Due.is("as it was", x.silent(2, false), 0);
    }
}
