public final class Promise04PackageTest {
    public static void main(String[] args) {
        Due.sentence("A package of the octets for a controller: its number", Promise04PackageTest::itsNumber);
        Due.sentence("OPEN and WRITING with no block written", Promise04PackageTest::nothingIsWritten);
        Due.sentence("instead of one that was WRITING", Promise04PackageTest::insteadOfOne);
        Due.sentence("(which goes out of its SET)", Promise04PackageTest::outOfItsSet);
        Due.sentence("The octets are gone then.", Promise04PackageTest::octetsAreGone);
        Due.sentence("-1 there is no controller", Promise04PackageTest::noController);
        Due.sentence("-2 the edition is not 1 .. 1000", Promise04PackageTest::noEdition);
        Due.sentence("or there are no octets", Promise04PackageTest::noOctets);
        Due.sentence("-3 it has one that is READY or SWITCHED", Promise04PackageTest::readyOrSwitched);
        Due.sentence("-4 there are 60", Promise04PackageTest::thereAreSixty);
        Due.sentence("-5 signed is not told", Promise04PackageTest::notSigned);
        Due.sentence("-6 the first octet is not its HARDWARE", Promise04PackageTest::otherHardware);
        Due.sentence("-7 the EDITION is not above the COUNTER", Promise04PackageTest::editionNotAbove);
        Due.end();
    }

    private static void itsNumber() {
        UpdatePacks x = Made.controllers(3);
        Due.is("the first", Made.pack(x, 2, 1, 1), 1);
        Due.is("the second", Made.pack(x, 3, 1, 1), 2);
        Due.is("instead of the first", Made.pack(x, 2, 1, 1), 3);
        Due.is("for another", Made.pack(x, 1, 1, 256), 4);
        x.silent(3, true);
        x.cut();
        x.condition(0, false);
        Due.is("for one that is OFF and SILENT", Made.pack(x, 3, 2, 1), 5);
    }

    private static void nothingIsWritten() {
        UpdatePacks x = Made.controllers(2);
        Made.pack(x, 1, 1, 17);
        Due.is("the bank has nothing of it", x.bank(1, 1, 0), 0);
        Made.pack(x, 2, 1, 1);
        Due.is("OPEN", x.needs(1, 2), 2);
        Due.is("block 0 is the first", x.step(1), 1);
        Due.is("octet 0", x.bank(1, 1, 0), 1);
        Due.is("octet 16", x.bank(1, 1, 16), 0);
        Due.is("block 1", x.step(1), 2);
    }

    private static void insteadOfOne() {
        UpdatePacks x = Made.controllers(2);
        Made.pack(x, 1, 9, 40);
        Made.pack(x, 2, 1, 1);
        Made.steps(x, 1, 1, 1);
        Due.is("another, of a lower edition", Made.pack(x, 1, 3, 20), 3);
        Due.is("the first is not OPEN", x.needs(1, 2), -3);
        Due.is("what was written stays for now", x.bank(1, 1, 31), Made.octet(1, 31));
        Due.is("no block is written", x.step(1), 1);
        Due.is("its second", x.step(1), 2);
        Due.is("behind it nothing is left", x.bank(1, 1, 20), 0);
        Made.steps(x, 1, 2, 3);
        Due.is("its edition", x.counter(1), 3);
        UpdatePacks y = Made.controllers(1);
        Made.pack(y, 1, 9, 1);
        Due.is("the very same edition", Made.pack(y, 1, 9, 1), 2);
        Made.run(y, 1, 9);
        Due.is("it runs", y.boot(1), 9);
    }

    private static void outOfItsSet() {
        for (int out = 1; out <= 3; out++) {
            UpdatePacks x = Made.controllers(4);
            for (int k = 1; k <= 3; k++) {
                Made.pack(x, k, 1, 1);
            }
            x.needs(1, 2);
            Due.is("a SET of three", x.needs(2, 3), 3);
            Due.is("instead of " + out, Made.pack(x, out, 2, 17), 4);
            int one = out == 1 ? 2 : 1;
            int other = out == 3 ? 2 : 3;
            Due.is("the others stay together", x.needs(one, other), 2);
            Made.pack(x, 4, 1, 1);
            Due.is("the new one goes alone", x.needs(5, 4), 2);
            Made.steps(x, one, 2);
            Made.steps(x, other, 2, 2, 3);
            Made.steps(x, one, 3);
            Due.is("the two that are left are a SET", x.joint(), 1);
            Due.is("they go back", x.rollback(), 1);
        }
        UpdatePacks x = Made.controllers(2);
        Made.ready(x, 1, 1);
        Made.pack(x, 2, 1, 1);
        x.needs(1, 2);
        Made.pack(x, 2, 1, 1);
        Made.steps(x, 1, 2, 3);
        Due.is("one that is left goes alone", x.joint(), 1);
    }

    private static void octetsAreGone() {
        UpdatePacks x = Made.controllers(2);
        Made.octets(x, 1, 256);
        Due.is("package0", x.package0(1, 1, true), 1);
        Due.is("for the same", x.package0(1, 2, true), -2);
        Due.is("for another", x.package0(2, 1, true), -2);
        x.octet((byte) 2);
        Due.is("one new octet", x.package0(2, 1, true), 2);
        Due.is("is one block", x.step(2), 2);
        Due.is("nothing is behind it", x.bank(2, 1, 1), 0);
    }

    private static void noController() {
        UpdatePacks x = Made.controllers(1);
        x.octet((byte) 1);
        for (int c : Made.noController(1)) {
            Due.is("package0(" + c + ")", x.package0(c, 1, true), -1);
        }
        Due.is("package0(1)", x.package0(1, 1, true), 1);
        UpdatePacks y = Made.controllers(8);
        y.octet((byte) 8);
        Due.is("package0(9)", y.package0(9, 1, true), -1);
        Due.is("package0(8)", y.package0(8, 1, true), 1);
    }

    private static void noEdition() {
        UpdatePacks x = Made.controllers(2);
        x.octet((byte) 1);
        int[] none = {0, -1, -1000, 1001, 65537, Integer.MIN_VALUE, Integer.MIN_VALUE + 1, Integer.MAX_VALUE};
        for (int edition : none) {
            Due.is("edition " + edition, x.package0(1, edition, true), -2);
        }
        Due.is("edition 1", x.package0(1, 1, true), 1);
        Due.is("edition 1000", Made.pack(x, 2, 1000, 1), 2);
    }

    private static void noOctets() {
        UpdatePacks x = Made.controllers(1);
        Due.is("at first", x.package0(1, 1, true), -2);
        x.octet((byte) 1);
        Due.is("with one", x.package0(1, 1, true), 1);
        Due.is("after that", x.package0(1, 1, true), -2);
        Due.is("without a sign too", x.package0(1, 1, false), -2);
    }

    private static void readyOrSwitched() {
        UpdatePacks x = Made.readyPair();
        x.octet((byte) 1);
        Due.is("READY", x.package0(1, 9, true), -3);
        Made.steps(x, 1, 2);
        Due.is("READY and COMMITTED", x.package0(1, 9, true), -3);
        Made.steps(x, 1, 3);
        Due.is("SWITCHED", x.package0(1, 9, true), -3);
        x.cut();
        Due.is("SWITCHED and OFF", x.package0(1, 9, true), -3);
        x.boot(1);
        Due.is("2 switches", x.boot(2), 6);
        Due.is("IDLE", x.package0(1, 9, true), 3);
        x.octet((byte) 1);
        Due.is("WRITING", x.package0(1, 9, true), 4);
    }

    private static void thereAreSixty() {
        UpdatePacks x = Made.controllers(2);
        for (int k = 1; k <= 60; k++) {
            Due.is("package " + k, Made.pack(x, 1, 1, 1), k);
        }
        Due.is("one more instead of it", Made.pack(x, 1, 1, 1), -4);
        Due.is("one more, unsigned", x.package0(1, 1, false), -4);
        Due.is("60 is OPEN, 59 is not", x.needs(60, 59), -3);
        Due.is("there is no 61", x.needs(60, 61), -1);
        Made.steps(x, 1, 2, 2, 3);
        Due.is("when it is IDLE", x.package0(1, 2, true), -4);
        x.rollback();
        Due.is("when it went back", x.package0(1, 1, true), -4);
    }

    private static void notSigned() {
        UpdatePacks x = Made.controllers(1);
        x.octet((byte) 1);
        Due.is("not signed", x.package0(1, 1, false), -5);
        Due.is("there is none", x.step(1), 0);
        Due.is("signed", x.package0(1, 1, true), 1);
        x.octet((byte) 1);
        Due.is("not signed, instead of one", x.package0(1, 1, false), -5);
        Made.steps(x, 1, 2);
    }

    private static void otherHardware() {
        for (int hardware : new int[] {1, 7, 64, 127}) {
            for (int first : new int[] {0, 1, 7, 64, 127, -1, -7, -64, -127, -128, hardware + 1, hardware - 1, hardware - 128}) {
                UpdatePacks x = new UpdatePacks();
                x.controller(hardware);
                x.octet((byte) first);
                x.octet((byte) hardware);
                int due = (byte) first == hardware ? 1 : -6;
                Due.is("first octet " + (byte) first + " for hardware " + hardware, x.package0(1, 1, true), due);
            }
        }
    }

    private static void editionNotAbove() {
        UpdatePacks x = Made.controllers(1);
        Made.run(x, 1, 999);
        x.octet((byte) 1);
        Due.is("the least", x.package0(1, 1, true), -7);
        Due.is("one below", x.package0(1, 998, true), -7);
        Due.is("the same", x.package0(1, 999, true), -7);
        Due.is("one above", x.package0(1, 1000, true), 2);
        UpdatePacks y = Made.controllers(1);
        Made.run(y, 1, 1000);
        y.octet((byte) 1);
        Due.is("above the greatest is none", y.package0(1, 1000, true), -7);
        Due.is("going back", y.rollback(), 1);
        Due.is("the COUNTER is 0 then", y.package0(1, 1, true), 2);
    }
}
