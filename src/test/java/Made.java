/** Objects in the states that several tests begin from. */
final class Made {
    private static final int[] WILD = {0, -1, 9, 256, 257, -255, Integer.MIN_VALUE, Integer.MIN_VALUE + 1, Integer.MAX_VALUE};

    private Made() {
    }

    /** Numbers that no controller bears, when there are so many (8 at most); the least one behind them first. */
    static int[] noController(int count) {
        int[] none = new int[WILD.length + 1];
        none[0] = count + 1;
        System.arraycopy(WILD, 0, none, 1, WILD.length);
        return none;
    }

    /** Controllers 1 .. count, controller k of hardware k. */
    static UpdatePacks controllers(int count) {
        UpdatePacks x = new UpdatePacks();
        for (int k = 1; k <= count; k++) {
            Due.is("controller(" + k + ")", x.controller(k), k);
        }
        return x;
    }

    /** The octets that pack() gives to a package: the hardware first, and none of the others 0. */
    static byte octet(int hardware, int i) {
        int o = 31 * i + 7 * hardware + 1;
        return (byte) (i == 0 ? hardware : (byte) o == 0 ? 85 : o);
    }

    static void octets(UpdatePacks x, int hardware, int count) {
        for (int i = 0; i < count; i++) {
            x.octet(octet(hardware, i));
        }
    }

    /** A package of so many octets for a controller of controllers(). */
    static int pack(UpdatePacks x, int controller, int edition, int count) {
        octets(x, controller, count);
        return x.package0(controller, edition, true);
    }

    /** Steps of a controller, and the state that is due after each. */
    static void steps(UpdatePacks x, int controller, int... due) {
        for (int k = 0; k < due.length; k++) {
            Due.is("step(" + controller + "), number " + (k + 1), x.step(controller), due[k]);
        }
    }

    /** A package of one octet, written: READY. */
    static int ready(UpdatePacks x, int controller, int edition) {
        int number = pack(x, controller, edition, 1);
        Due.is("step to READY", x.step(controller), 2);
        return number;
    }

    /** A package of one octet that goes alone, switched: the LAST SET. */
    static int run(UpdatePacks x, int controller, int edition) {
        int number = ready(x, controller, edition);
        Due.is("step to COMMITTED", x.step(controller), 2);
        Due.is("step to SWITCHED", x.step(controller), 3);
        return number;
    }

    /** READY packages 1 and 2 of controllers 1 and 2, editions 5 and 6, one SET; a third controller. */
    static UpdatePacks readyPair() {
        UpdatePacks x = controllers(3);
        int one = ready(x, 1, 5);
        int two = ready(x, 2, 6);
        Due.is("needs of the pair", x.needs(one, two), 2);
        return x;
    }

    /** readyPair(), COMMITTED. */
    static UpdatePacks committedPair() {
        UpdatePacks x = readyPair();
        Due.is("step that commits", x.step(1), 2);
        return x;
    }

    /** committedPair(), both SWITCHED: the LAST SET. */
    static UpdatePacks pairThatRuns() {
        UpdatePacks x = committedPair();
        Due.is("1 switches", x.step(1), 3);
        Due.is("2 switches", x.step(2), 3);
        return x;
    }
}
