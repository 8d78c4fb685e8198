public final class Promise04PackageTest {
    public static void main(String[] args) {
        unknownController();
        ranges();
        notInThisState();
        onlySixty();
        rules();
        theFirstRefusalThatFits();
        insteadOfOneThatIsWriting();
        outOfItsSet();
        Due.end();
    }

    private static void unknownController() {
        UpdatePacks x = Made.controllers(1);
        x.octet((byte) 1);
        for (int c : new int[] {0, -1, 2, 9, Integer.MIN_VALUE, Integer.MAX_VALUE}) {
            Due.is("package0(" + c + ")", x.package0(c, 1, true), -1);
        }
        Due.is("package0(1)", x.package0(1, 1, true), 1);
    }

    private static void ranges() {
        UpdatePacks x = Made.controllers(2);
        Due.is("no octets", x.package0(1, 1, true), -2);
        x.octet((byte) 1);
        for (int edition : new int[] {0, -1, 1001, Integer.MIN_VALUE, Integer.MAX_VALUE}) {
            Due.is("edition " + edition, x.package0(1, edition, true), -2);
        }
        Due.is("edition 1000", x.package0(1, 1000, true), 1);
        Due.is("the octets are gone", x.package0(1, 1000, true), -2);
        Due.is("edition 1", Made.pack(x, 2, 1, 1), 2);
    }

    private static void notInThisState() {
        UpdatePacks x = Made.committedPair();
        Due.is("while READY", Made.pack(x, 1, 9, 1), -3);
        Due.is("step(1)", x.step(1), 3);
        Due.is("while SWITCHED", x.package0(1, 9, true), -3);
        Due.is("step(2)", x.step(2), 3);
        Due.is("when IDLE again", x.package0(1, 9, true), 3);
    }

    private static void onlySixty() {
        UpdatePacks x = Made.controllers(2);
        for (int k = 1; k <= 60; k++) {
            Due.is("package " + k, Made.pack(x, 1, 1, 1), k);
        }
        Due.is("one more", Made.pack(x, 1, 1, 1), -4);
        Due.is("one more, unsigned", x.package0(2, 1, false), -4);
        Due.is("package 60 is OPEN, 59 is not", x.needs(60, 59), -3);
        Due.is("package 61", x.needs(60, 61), -1);
    }

    private static void rules() {
        UpdatePacks x = Made.controllers(2);
        Made.run(x, 1, 5);
        x.octet((byte) 1);
        Due.is("unsigned", x.package0(1, 6, false), -5);
        Due.is("other hardware", x.package0(2, 6, true), -6);
        Due.is("an older edition", x.package0(1, 4, true), -7);
        Due.is("the same edition", x.package0(1, 5, true), -7);
        Due.is("a newer edition", x.package0(1, 6, true), 2);
    }

    private static void theFirstRefusalThatFits() {
        UpdatePacks x = Made.controllers(2);
        Made.run(x, 1, 5);
        Due.is("unknown before range", x.package0(3, 0, false), -1);
        Made.ready(x, 2, 7);
        Due.is("range before state: octets", x.package0(2, 9, true), -2);
        x.octet((byte) 9);
        Due.is("range before state: edition", x.package0(2, 0, false), -2);
        Due.is("state before sign", x.package0(2, 1, false), -3);
        Due.is("sign before hardware", x.package0(1, 1, false), -5);
        Due.is("hardware before edition", x.package0(1, 1, true), -6);
    }

    private static void insteadOfOneThatIsWriting() {
        UpdatePacks x = Made.controllers(2);
        Made.pack(x, 1, 9, 40);
        Made.pack(x, 2, 1, 1);
        Due.is("step(1)", x.step(1), 1);
        Due.is("step(1) again", x.step(1), 1);
        Due.is("another, of a lower edition", Made.pack(x, 1, 3, 20), 3);
        Due.is("the first is not OPEN", x.needs(1, 2), -3);
        Due.is("no block is written", x.step(1), 1);
        Due.is("its second", x.step(1), 2);
        Due.is("behind it nothing is left", x.bank(1, 1, 20), 0);
        Due.is("step that commits", x.step(1), 2);
        Due.is("step that switches", x.step(1), 3);
        Due.is("its edition", x.counter(1), 3);
    }

    private static void outOfItsSet() {
        UpdatePacks x = Made.controllers(4);
        for (int k = 1; k <= 3; k++) {
            Made.pack(x, k, 1, 1);
        }
        Due.is("needs(1, 2)", x.needs(1, 2), 2);
        Due.is("needs(2, 3)", x.needs(2, 3), 3);
        Due.is("instead of the middle one", Made.pack(x, 2, 2, 1), 4);
        Due.is("the others stay together", x.needs(1, 3), 2);
        Made.pack(x, 4, 1, 1);
        Due.is("the new one goes alone", x.needs(4, 5), 2);
        Due.is("step(1)", x.step(1), 2);
        Due.is("step(3)", x.step(3), 2);
        Due.is("commit of the two that are left", x.step(1), 2);
        Due.is("switch of 1", x.step(1), 3);
        Due.is("switch of 3", x.step(3), 3);
        Due.is("joint()", x.joint(), 1);
    }
}
