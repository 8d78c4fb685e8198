public final class Promise01NewObjectTest {
    public static void main(String[] args) {
        Due.sentence("No controllers", Promise01NewObjectTest::noControllers);
        Due.sentence("no packages", Promise01NewObjectTest::noPackages);
        Due.sentence("no octets", Promise01NewObjectTest::noOctets);
        Due.sentence("both CONDITIONS hold", Promise01NewObjectTest::bothConditionsHold);
        Due.sentence("UpdatePacks()", Promise01NewObjectTest::objectsShareNothing);
        Due.end();
    }

    private static void noControllers() {
        UpdatePacks x = new UpdatePacks();
        for (int c : Made.noController(0)) {
            Due.is("package0(" + c + ")", x.package0(c, 1, true), -1);
            Due.is("block(" + c + ")", x.block(c, 0, (byte) 1), -1);
            Due.is("step(" + c + ")", x.step(c), -1);
            Due.is("boot(" + c + ")", x.boot(c), -1);
            Due.is("bank(" + c + ")", x.bank(c, 0, 0), 0);
            Due.is("silent(" + c + ")", x.silent(c, true), -1);
            Due.is("counter(" + c + ")", x.counter(c), -1);
        }
        Due.is("cut()", x.cut(), 0);
        Due.is("joint()", x.joint(), 0);
        Due.is("rollback()", x.rollback(), 0);
        Due.is("the first", x.controller(1), 1);
    }

    private static void noPackages() {
        UpdatePacks x = Made.controllers(1);
        Due.is("needs(1, 1)", x.needs(1, 1), -1);
        Due.is("needs(1, 2)", x.needs(1, 2), -1);
        Due.is("needs(0, 1)", x.needs(0, 1), -1);
        Due.throwsIndex("digest(0)", () -> x.digest(0));
        Due.is("step(1)", x.step(1), 0);
        Due.is("the first", Made.pack(x, 1, 1, 1), 1);
    }

    private static void noOctets() {
        UpdatePacks x = Made.controllers(1);
        Due.is("package0", x.package0(1, 1, true), -2);
        Made.octets(x, 1, 1);
        Due.is("with one", x.package0(1, 1, true), 1);
        Due.is("it is one block", x.step(1), 2);
        Due.is("and the first octet of it", x.bank(1, 1, 0), 1);
    }

    private static void bothConditionsHold() {
        UpdatePacks x = new UpdatePacks();
        Due.is("condition(0, true)", x.condition(0, true), 1);
        UpdatePacks y = new UpdatePacks();
        Due.is("condition(1, true)", y.condition(1, true), 1);
        UpdatePacks z = Made.controllers(1);
        Made.run(z, 1, 1);
        Due.is("it wrote and committed", z.counter(1), 1);
    }

    private static void objectsShareNothing() {
        UpdatePacks x = Made.controllers(2);
        Made.run(x, 1, 3);
        x.condition(0, false);
        x.octet((byte) 1);
        UpdatePacks y = new UpdatePacks();
        Due.is("counter(1) of another", y.counter(1), -1);
        Due.is("joint() of another", y.joint(), 0);
        Due.is("condition(1, true) of another", y.condition(1, true), 1);
        Due.throwsIndex("digest(0) of another", () -> y.digest(0));
        Due.is("controller(1) of another", y.controller(1), 1);
        Due.is("package0 of another", y.package0(1, 9, true), -2);
        Due.is("bank 1 of another", y.bank(1, 1, 0), 0);
        Made.run(y, 1, 1);
        Due.is("the first as it was", x.counter(1), 3);
        inTurn();
    }

    /** Two objects of the same calls in turn, but of other octets. */
    private static void inTurn() {
        UpdatePacks x = Made.controllers(1);
        UpdatePacks y = Made.controllers(1);
        x.octet((byte) 1);
        y.octet((byte) 1);
        x.octet((byte) 22);
        y.octet((byte) 33);
        Due.is("package0", x.package0(1, 1, true), 1);
        Due.is("package0 of another", y.package0(1, 2, true), 1);
        Due.is("not the same digest", x.digest(0) == y.digest(0) && x.digest(1) == y.digest(1) ? 1 : 0, 0);
        Made.steps(x, 1, 2);
        Made.steps(y, 1, 2);
        Due.is("octet 1", x.bank(1, 1, 1), 22);
        Due.is("octet 1 of another", y.bank(1, 1, 1), 33);
        Made.steps(x, 1, 2, 3);
        Due.is("it runs", x.counter(1), 1);
        Due.is("the other does not", y.counter(1), 0);
        Made.steps(y, 1, 2, 3);
        Due.is("now it does", y.counter(1), 2);
    }
}
