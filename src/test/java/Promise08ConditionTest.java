public final class Promise08ConditionTest {
    public static void main(String[] args) {
        Due.sentence("A CONDITION, 0 parked or 1 battery, holds from now on, or not", Promise08ConditionTest::fromNowOn);
        Due.sentence("1 if both do, 0 if not", Promise08ConditionTest::bothOrNot);
        Due.sentence("-1 there is none", Promise08ConditionTest::thereIsNone);
        Due.end();
    }

    private static void fromNowOn() {
        for (int kind = 0; kind < 2; kind++) {
            UpdatePacks x = Made.controllers(2);
            Made.pack(x, 1, 1, 1);
            x.block(1, 0, (byte) 1);
            x.condition(kind, false);
            Made.steps(x, 1, 1, 1);
            Due.is("nothing is written without " + kind, x.bank(1, 1, 0), 0);
            x.cut();
            x.boot(1);
            Made.steps(x, 1, 1);
            Due.is("nor after a cut", x.bank(1, 1, 0), 0);
            x.condition(kind, true);
            Due.is("with it the fault is still there", x.step(1), 1);
            Due.is("and then it is READY", x.step(1), 2);
            x.condition(kind, false);
            Made.steps(x, 1, 2, 2);
            Due.is("nothing runs without " + kind, x.counter(1), 0);
            x.condition(kind, true);
            Made.steps(x, 1, 2);
            x.condition(kind, false);
            Due.is("COMMITTED: it switches without " + kind, x.step(1), 3);
            Due.is("and goes back without it", x.rollback(), 1);
        }
    }

    private static void bothOrNot() {
        UpdatePacks x = new UpdatePacks();
        Due.is("both", x.condition(0, true), 1);
        Due.is("battery alone", x.condition(0, false), 0);
        Due.is("battery alone, told again", x.condition(1, true), 0);
        Due.is("none", x.condition(1, false), 0);
        Due.is("none, told again", x.condition(0, false), 0);
        Due.is("parked alone", x.condition(0, true), 0);
        Due.is("both again", x.condition(1, true), 1);
        Due.is("parked alone again", x.condition(1, false), 0);
        Due.is("and both", x.condition(1, true), 1);
    }

    private static void thereIsNone() {
        UpdatePacks x = new UpdatePacks();
        int[] none = {-1, 2, 3, 256, 257, Integer.MIN_VALUE, Integer.MIN_VALUE + 1, Integer.MAX_VALUE};
        for (int kind : none) {
            Due.is("condition(" + kind + ", false)", x.condition(kind, false), -1);
            Due.is("condition(" + kind + ", true)", x.condition(kind, true), -1);
            Due.is("condition(" + kind + ", false)", x.condition(kind, false), -1);
        }
        Due.is("both hold still", x.condition(0, true), 1);
        x.condition(0, false);
        x.condition(1, false);
        for (int kind : none) {
            Due.is("condition(" + kind + ", true)", x.condition(kind, true), -1);
        }
        Due.is("none holds still", x.condition(0, true), 0);
    }
}
