import java.util.ArrayList;
import java.util.List;

public final class TermsRefusalsTest {
    private interface Call {
        long on(UpdatePacks x);
    }

    public static void main(String[] args) {
        Due.sentence("REFUSALS change nothing", TermsRefusalsTest::changeNothing);
        Due.sentence("and answer, the first that fits: -1 an unknown number, -2 outside a range",
                TermsRefusalsTest::unknownBeforeRange);
        Due.sentence("-2 outside a range, -3 not in this state", TermsRefusalsTest::rangeBeforeState);
        Due.sentence("-2 outside a range, -3 not in this state, -4 no room", TermsRefusalsTest::rangeBeforeRoom);
        Due.sentence("-3 not in this state, -4 no room", TermsRefusalsTest::stateBeforeRoom);
        Due.sentence("of package0() then the rules: -5 without a good sign", TermsRefusalsTest::roomBeforeRules);
        Due.sentence("-5 without a good sign, -6 other hardware", TermsRefusalsTest::signBeforeHardware);
        Due.sentence("-6 other hardware, -7 the EDITION is not above the COUNTER",
                TermsRefusalsTest::hardwareBeforeEdition);
        Due.end();
    }

    /** Controller 1 SWITCHED and 2 READY in a COMMITTED SET, 3 WRITING with a FAULT told, 4 in the LAST SET. */
    private static UpdatePacks full() {
        UpdatePacks x = Made.controllers(4);
        Made.run(x, 4, 3);
        x.needs(Made.ready(x, 1, 5), Made.ready(x, 2, 6));
        Made.steps(x, 1, 2, 3);
        Made.pack(x, 3, 7, 40);
        Made.steps(x, 3, 1);
        x.block(3, 1, (byte) 9);
        x.octet((byte) 4);
        x.octet((byte) 44);
        return x;
    }

    /** The same, but 1 is SILENT, 2 .. 4 are OFF, and it is not parked. */
    private static UpdatePacks away() {
        UpdatePacks x = full();
        x.cut();
        x.boot(1);
        x.silent(1, true);
        x.condition(0, false);
        return x;
    }

    private static void changeNothing() {
        int[] packages = {0, -1, 5, 61, Integer.MIN_VALUE, Integer.MAX_VALUE};
        for (int c : Made.noController(4)) {
            refused("package0 of " + c, -1, x -> x.package0(c, 9, true));
            refused("block of " + c, -1, x -> x.block(c, 0, (byte) 1));
            refused("step of " + c, -1, x -> x.step(c));
            refused("boot of " + c, -1, x -> x.boot(c));
            refused("silent of " + c, -1, x -> x.silent(c, true));
            refused("counter of " + c, -1, x -> x.counter(c));
            refused("bank of " + c, 0, x -> x.bank(c, 0, 0));
        }
        for (int p : packages) {
            refused("needs " + p, -1, x -> x.needs(p, 4));
            refused("needs 4 and " + p, -1, x -> x.needs(4, p));
        }
        for (int hardware : new int[] {0, -1, 128, 257, Integer.MIN_VALUE, Integer.MAX_VALUE}) {
            refused("hardware " + hardware, -2, x -> x.controller(hardware));
        }
        for (int edition : new int[] {0, -1, 1001, Integer.MIN_VALUE, Integer.MAX_VALUE}) {
            refused("edition " + edition, -2, x -> x.package0(4, edition, true));
        }
        for (int n : new int[] {-1, 16, Integer.MIN_VALUE, Integer.MAX_VALUE}) {
            refused("block " + n, -2, x -> x.block(3, n, (byte) 1));
        }
        for (int kind : new int[] {-1, 2, Integer.MIN_VALUE, Integer.MAX_VALUE}) {
            refused("condition " + kind, -1, x -> x.condition(kind, true));
            refused("no condition " + kind, -1, x -> x.condition(kind, false));
        }
        refused("a fault of 0", -2, x -> x.block(3, 0, (byte) 0));
        refused("needs of one", -2, x -> x.needs(4, 4));
        refused("needs of one that is not OPEN", -3, x -> x.needs(1, 4));
        refused("needs of a COMMITTED one", -3, x -> x.needs(4, 3));
        refused("needs of a SWITCHED one", -3, x -> x.needs(2, 4));
        refused("needs of two COMMITTED ones", -3, x -> x.needs(2, 3));
        refused("a package for a SWITCHED one", -3, x -> x.package0(1, 9, true));
        refused("a package for a READY one", -3, x -> x.package0(2, 9, true));
        refused("a package without a sign", -5, x -> x.package0(4, 9, false));
        refused("a package instead of one, without a sign", -5, x -> x.package0(3, 9, false));
        refused("a package of other hardware", -6, x -> x.package0(3, 9, true));
        refused("a package of the same edition", -7, x -> x.package0(4, 3, true));
        refusedIn(TermsRefusalsTest::away, "a step of a SILENT one", -3, x -> x.step(1));
        refusedIn(TermsRefusalsTest::away, "a step of one that is OFF", -3, x -> x.step(2));
        refusedIn(TermsRefusalsTest::away, "a step of a WRITING one that is OFF", -3, x -> x.step(3));
        refusedIn(TermsRefusalsTest::away, "rollback of one that is OFF", 0, UpdatePacks::rollback);
        refusedIn(TermsRefusalsTest::away, "an unknown condition", -1, x -> x.condition(2, true));
        refusedIn(TermsRefusalsTest::eight, "a ninth", -4, x -> x.controller(3));
        refusedIn(TermsRefusalsTest::sixty, "a package more", -4, x -> x.package0(4, 9, true));
        refusedIn(TermsRefusalsTest::noOctets, "a package of nothing", -2, x -> x.package0(3, 9, true));
    }

    private static UpdatePacks eight() {
        UpdatePacks x = full();
        for (int k = 5; k <= 8; k++) {
            Due.is("controller(" + k + ")", x.controller(k), k);
        }
        return x;
    }

    private static UpdatePacks sixty() {
        UpdatePacks x = Made.controllers(4);
        for (int k = 1; k <= 60; k++) {
            Due.is("package " + k, Made.pack(x, 4, k, 1), k);
        }
        x.octet((byte) 4);
        return x;
    }

    private static UpdatePacks noOctets() {
        UpdatePacks x = full();
        Due.is("the octets are used", x.package0(4, 9, true), 5);
        return x;
    }

    private interface Scene {
        UpdatePacks make();
    }

    private static void refused(String what, long due, Call call) {
        refusedIn(TermsRefusalsTest::full, what, due, call);
    }

    /** Two objects that are alike, one with the refused call: whatever is asked then, they answer alike. */
    private static void refusedIn(Scene scene, String what, long due, Call call) {
        for (int way = 0; way < 2; way++) {
            UpdatePacks with = scene.make();
            Due.is(what, call.on(with), due);
            List<Long> got = lookRound(with, way == 1);
            List<Long> want = lookRound(scene.make(), way == 1);
            for (int k = 0; k < want.size(); k++) {
                Due.is("answer " + k + " after " + what, got.get(k), want.get(k));
            }
        }
    }

    /** Answers that show the whole state, one way with a cut first. */
    private static List<Long> lookRound(UpdatePacks x, boolean cutFirst) {
        List<Long> seen = new ArrayList<>();
        showStill(x, seen);
        if (cutFirst) {
            seen.add((long) x.cut());
        }
        for (int c = 1; c <= 4; c++) {
            seen.add((long) x.boot(c));
            seen.add((long) x.silent(c, false));
        }
        seen.add((long) x.rollback());
        seen.add((long) x.condition(1, true));
        seen.add((long) x.condition(0, true));
        for (int k = 0; k < 6; k++) {
            for (int c = 1; c <= 4; c++) {
                seen.add((long) x.step(c));
            }
            seen.add((long) x.joint());
            seen.add((long) x.bank(3, 1, 16));
        }
        showStill(x, seen);
        for (int c = 1; c <= 4; c++) {
            seen.add((long) x.package0(c, 20, true));
            seen.add((long) x.step(c));
        }
        seen.add((long) x.needs(4, 5));
        showStill(x, seen);
        seen.add((long) x.controller(9));
        return seen;
    }

    private static void showStill(UpdatePacks x, List<Long> seen) {
        seen.add((long) x.joint());
        for (int c = 1; c <= 4; c++) {
            seen.add((long) x.counter(c));
            for (int i : new int[] {0, 1, 16}) {
                seen.add((long) x.bank(c, 0, i));
                seen.add((long) x.bank(c, 1, i));
            }
        }
        for (int i = 0; i < 32; i += 8) {
            seen.add((long) x.digest(i));
        }
    }

    private static void unknownBeforeRange() {
        UpdatePacks x = Made.controllers(1);
        Due.is("package0: no octets, no edition", x.package0(2, 0, false), -1);
        Due.is("package0 of 0", x.package0(0, 1001, true), -1);
        Due.is("block: no such block", x.block(2, 16, (byte) 1), -1);
        Due.is("block: a fault of 0", x.block(0, 0, (byte) 0), -1);
        Due.is("needs: they are one", x.needs(1, 1), -1);
        Made.pack(x, 1, 1, 1);
        Due.is("needs: one is none", x.needs(2, 2), -1);
        Due.is("needs: the other way round", x.needs(0, 0), -1);
    }

    private static void rangeBeforeState() {
        UpdatePacks x = Made.committedPair();
        Due.is("package0: no octets, READY", x.package0(1, 9, true), -2);
        x.octet((byte) 1);
        Due.is("package0: no edition, READY", x.package0(1, 0, true), -2);
        Due.is("package0: too great an edition, READY", x.package0(2, 1001, false), -2);
        Made.steps(x, 1, 3);
        Due.is("package0: no edition, SWITCHED", x.package0(1, 1001, true), -2);
        Due.is("needs: one, and COMMITTED", x.needs(1, 1), -2);
        Made.steps(x, 2, 3);
        Due.is("needs: one, and not OPEN", x.needs(2, 2), -2);
    }

    private static void rangeBeforeRoom() {
        UpdatePacks x = Made.controllers(8);
        Due.is("a ninth, without hardware", x.controller(0), -2);
        Due.is("a ninth, of too great hardware", x.controller(128), -2);
        for (int k = 1; k <= 60; k++) {
            Due.is("package " + k, Made.pack(x, 1, 1, 1), k);
        }
        Due.is("a 61st, without octets", x.package0(1, 1, true), -2);
        x.octet((byte) 1);
        Due.is("a 61st, without an edition", x.package0(1, 0, true), -2);
        Due.is("a 61st", x.package0(1, 1, true), -4);
    }

    private static void stateBeforeRoom() {
        UpdatePacks x = Made.controllers(2);
        for (int k = 1; k <= 60; k++) {
            Due.is("package " + k, Made.pack(x, 1, 1, 1), k);
        }
        Made.steps(x, 1, 2);
        x.octet((byte) 1);
        Due.is("READY", x.package0(1, 1, true), -3);
        Due.is("IDLE", x.package0(2, 1, true), -4);
        Made.steps(x, 1, 2, 3);
        Due.is("IDLE again", x.package0(1, 2, true), -4);
    }

    private static void roomBeforeRules() {
        UpdatePacks x = Made.controllers(2);
        Made.run(x, 2, 5);
        for (int k = 2; k <= 60; k++) {
            Due.is("package " + k, Made.pack(x, 1, 1, 1), k);
        }
        x.octet((byte) 1);
        Due.is("no sign", x.package0(1, 1, false), -4);
        Due.is("other hardware", x.package0(2, 9, true), -4);
        Due.is("an old edition", x.package0(2, 5, true), -4);
        UpdatePacks y = Made.readyPair();
        y.octet((byte) 3);
        Due.is("state before sign", y.package0(1, 9, false), -3);
        Due.is("state before hardware", y.package0(1, 9, true), -3);
        Due.is("range before sign", y.package0(3, 0, false), -2);
    }

    private static void signBeforeHardware() {
        UpdatePacks x = Made.controllers(2);
        Made.run(x, 1, 5);
        x.octet((byte) 9);
        Due.is("no sign, other hardware", x.package0(2, 1, false), -5);
        Due.is("no sign, other hardware, an old edition", x.package0(1, 1, false), -5);
        UpdatePacks y = Made.controllers(1);
        Made.run(y, 1, 5);
        y.octet((byte) 1);
        Due.is("no sign, an old edition", y.package0(1, 5, false), -5);
    }

    private static void hardwareBeforeEdition() {
        UpdatePacks x = Made.controllers(1);
        Made.run(x, 1, 5);
        x.octet((byte) 9);
        Due.is("other hardware, an old edition", x.package0(1, 5, true), -6);
        UpdatePacks y = Made.controllers(1);
        Made.run(y, 1, 5);
        y.octet((byte) 1);
        Due.is("an old edition", y.package0(1, 5, true), -7);
    }
}
