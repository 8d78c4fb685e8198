public final class Promise02ControllerTest {
    public static void main(String[] args) {
        Due.sentence("A controller: its number.", Promise02ControllerTest::itsNumber);
        Due.sentence("-2 the HARDWARE is none", Promise02ControllerTest::hardwareIsNone);
        Due.sentence("-4 there are 8", Promise02ControllerTest::thereAreEight);
        Due.end();
    }

    private static void itsNumber() {
        UpdatePacks x = new UpdatePacks();
        Due.is("the least hardware", x.controller(1), 1);
        Due.is("the greatest", x.controller(127), 2);
        Due.is("one that there is already", x.controller(127), 3);
        x.octet((byte) 127);
        Due.is("a package fits the second", x.package0(2, 1, true), 1);
        x.octet((byte) 127);
        Due.is("and the third", x.package0(3, 1, true), 2);
        x.octet((byte) 127);
        Due.is("not the first", x.package0(1, 1, true), -6);
    }

    private static void hardwareIsNone() {
        UpdatePacks x = new UpdatePacks();
        int[] none = {0, -1, -127, 128, 255, 256, 257, Integer.MIN_VALUE, Integer.MIN_VALUE + 1, Integer.MAX_VALUE};
        for (int hardware : none) {
            Due.is("controller(" + hardware + ")", x.controller(hardware), -2);
            Due.is("there is none", x.counter(1), -1);
        }
        Due.is("a good one has number 1", x.controller(1), 1);
        for (int hardware : none) {
            Due.is("controller(" + hardware + ") again", x.controller(hardware), -2);
        }
        Due.is("the next has number 2", x.controller(1), 2);
    }

    private static void thereAreEight() {
        UpdatePacks x = new UpdatePacks();
        for (int k = 1; k <= 8; k++) {
            Due.is("controller " + k, x.controller(127), k);
        }
        Due.is("a ninth", x.controller(5), -4);
        Due.is("a ninth once more", x.controller(127), -4);
        Due.is("a ninth without hardware", x.controller(0), -2);
        Due.is("there is none", x.step(9), -1);
        Due.is("the eighth is there", x.step(8), 0);
        Due.is("eight are ON", x.cut(), 8);
    }
}
