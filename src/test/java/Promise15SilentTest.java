public final class Promise15SilentTest {
    public static void main(String[] args) {
        UpdatePacks x = Made.controllers(2);
        for (int c : new int[] {0, -1, 3, 9, Integer.MIN_VALUE, Integer.MAX_VALUE}) {
            Due.is("silent(" + c + ", true)", x.silent(c, true), -1);
            Due.is("silent(" + c + ", false)", x.silent(c, false), -1);
        }
        Due.is("as it was", x.silent(1, false), 0);
        Due.is("SILENT", x.silent(1, true), 1);
        Due.is("SILENT again", x.silent(1, true), 0);
        Due.is("its step", x.step(1), -3);
        Due.is("the other's step", x.step(2), 0);
        x.cut();
        x.boot(1);
        Due.is("SILENT after a boot", x.silent(1, true), 0);
        Due.is("not SILENT", x.silent(1, false), 1);
        Due.is("not SILENT again", x.silent(1, false), 0);
        Due.is("its step then", x.step(1), 0);
        Due.is("while OFF", x.silent(2, true), 1);
        Due.end();
    }
}
