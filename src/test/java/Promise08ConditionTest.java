public final class Promise08ConditionTest {
    public static void main(String[] args) {
        answers();
        stopsWriting(0);
        stopsWriting(1);
        stopsCommitting(0);
        stopsCommitting(1);
        doesNotStopSwitching();
        Due.end();
    }

    private static void answers() {
        UpdatePacks x = new UpdatePacks();
        for (int kind : new int[] {-1, 2, Integer.MIN_VALUE, Integer.MAX_VALUE}) {
            Due.is("condition(" + kind + ", false)", x.condition(kind, false), -1);
            Due.is("condition(" + kind + ", true)", x.condition(kind, true), -1);
        }
        Due.is("condition(0, true)", x.condition(0, true), 1);
        Due.is("condition(0, false)", x.condition(0, false), 0);
        Due.is("condition(1, true)", x.condition(1, true), 0);
        Due.is("condition(1, false)", x.condition(1, false), 0);
        Due.is("condition(0, true), 1 not", x.condition(0, true), 0);
        Due.is("condition(1, true), both", x.condition(1, true), 1);
    }

    private static void stopsWriting(int kind) {
        UpdatePacks x = Made.controllers(1);
        Made.pack(x, 1, 1, 1);
        x.block(1, 0, (byte) 1);
        x.condition(kind, false);
        Due.is("nothing is written without " + kind, x.step(1), 1);
        Due.is("octet 0", x.bank(1, 1, 0), 0);
        x.condition(kind, true);
        Due.is("with it the fault is still there", x.step(1), 1);
        Due.is("and then it is READY", x.step(1), 2);
    }

    private static void stopsCommitting(int kind) {
        UpdatePacks x = Made.controllers(1);
        Made.ready(x, 1, 1);
        x.condition(kind, false);
        Due.is("no commit without " + kind, x.step(1), 2);
        Due.is("and no switch", x.step(1), 2);
        x.condition(kind, true);
        Due.is("commit", x.step(1), 2);
        Due.is("switch", x.step(1), 3);
    }

    private static void doesNotStopSwitching() {
        UpdatePacks x = Made.committedPair();
        x.condition(0, false);
        x.condition(1, false);
        Due.is("1 switches", x.step(1), 3);
        x.cut();
        Due.is("2 switches when it boots", x.boot(2), 6);
        Due.is("boot(1)", x.boot(1), 5);
        Due.is("rollback()", x.rollback(), 1);
    }
}
