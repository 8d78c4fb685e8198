/** Objects in the states that several tests begin from. */
final class Made {
    private Made() {
    }

    /** Controllers 1 .. count, controller k of hardware k. */
    static UpdatePacks controllers(int count) {
        UpdatePacks x = new UpdatePacks();
        for (int k = 1; k <= count; k++) {
            Due.is("controller(" + k + ")", x.controller(k), k);
        }
        return x;
    }

    /** The octets that pack() gives to a package: the hardware first. */
    static byte octet(int hardware, int i) {
        return (byte) (i == 0 ? hardware : 31 * i + 7 * hardware + 1);
    }

    static void octets(UpdatePacks x, int hardware, int count) {
        for (int i = 0; i < count; i++) {
            x.octet(octet(hardware, i));
        }
    }

    /** A package of so many octets for a controller of controllers(). */
    static int pack(UpdatePacks x, int controller, int edition, int count) {
        octets(x, controller, count);
        return x.package0(controller, edition, true);
    }

    /** A package of one octet, written: READY. */
    static int ready(UpdatePacks x, int controller, int edition) {
        int number = pack(x, controller, edition, 1);
        Due.is("step to READY", x.step(controller), 2);
        return number;
    }

    /** A package of one octet that goes alone, switched: the LAST SET. */
    static int run(UpdatePacks x, int controller, int edition) {
        int number = ready(x, controller, edition);
        Due.is("step to COMMITTED", x.step(controller), 2);
        Due.is("step to SWITCHED", x.step(controller), 3);
        return number;
    }

    /** READY packages of controllers 1 and 2, one COMMITTED SET. */
    static UpdatePacks committedPair() {
        UpdatePacks x = controllers(3);
        int one = ready(x, 1, 5);
        int two = ready(x, 2, 6);
        Due.is("needs of the pair", x.needs(one, two), 2);
        Due.is("step that commits", x.step(1), 2);
        return x;
    }
}
