public final class Promise11BootTest {
    public static void main(String[] args) {
        refusals();
        onStaysAsItIs();
        switchesAtOnce();
        aSilentOneSwitchesToo();
        onlyItself();
        Due.end();
    }

    private static void refusals() {
        UpdatePacks x = Made.controllers(1);
        for (int c : new int[] {0, -1, 2, 9, Integer.MIN_VALUE, Integer.MAX_VALUE}) {
            Due.is("boot(" + c + ")", x.boot(c), -1);
        }
        Due.is("boot(1)", x.boot(1), 0);
    }

    private static void onStaysAsItIs() {
        UpdatePacks x = Made.committedPair();
        Due.is("ON, so it does not switch", x.boot(1), 0);
        Due.is("a step does", x.step(1), 3);
        Due.is("SWITCHED runs", x.boot(1), 5);
    }

    private static void switchesAtOnce() {
        UpdatePacks x = Made.committedPair();
        Due.is("1 switches", x.step(1), 3);
        x.cut();
        Due.is("1 does not switch again", x.boot(1), 5);
        Due.is("SWITCHED", x.step(1), 3);
        Due.is("2 switches", x.boot(2), 6);
        Due.is("its counter", x.counter(2), 6);
        Due.is("the SET is whole", x.step(1), 0);
        Due.is("IDLE", x.step(2), 0);
        Due.is("the LAST one", x.joint(), 1);
    }

    private static void aSilentOneSwitchesToo() {
        UpdatePacks x = Made.committedPair();
        x.silent(1, true);
        x.cut();
        Due.is("1 switches", x.boot(1), 5);
        Due.is("it is SILENT still", x.step(1), -3);
    }

    private static void onlyItself() {
        UpdatePacks x = Made.controllers(2);
        x.cut();
        Due.is("boot(1)", x.boot(1), 0);
        Due.is("1 is ON", x.step(1), 0);
        Due.is("2 is OFF", x.step(2), -3);
    }
}
