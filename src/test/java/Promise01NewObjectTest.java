public final class Promise01NewObjectTest {
    public static void main(String[] args) {
        noControllers();
        noPackagesAndNoOctets();
        bothConditionsHold();
        objectsShareNothing();
        Due.end();
    }

    private static void noControllers() {
        UpdatePacks x = new UpdatePacks();
        Due.is("step(1)", x.step(1), -1);
        Due.is("counter(1)", x.counter(1), -1);
        Due.is("boot(1)", x.boot(1), -1);
        Due.is("cut()", x.cut(), 0);
        Due.is("joint()", x.joint(), 0);
        Due.is("rollback()", x.rollback(), 0);
        Due.is("controller(1)", x.controller(1), 1);
    }

    private static void noPackagesAndNoOctets() {
        UpdatePacks x = Made.controllers(1);
        Due.is("needs(1, 1)", x.needs(1, 1), -1);
        Due.throwsIndex("digest(0)", () -> x.digest(0));
        Due.is("package0 without octets", x.package0(1, 1, true), -2);
        Due.is("step(1)", x.step(1), 0);
    }

    private static void bothConditionsHold() {
        UpdatePacks x = new UpdatePacks();
        Due.is("condition(0, true)", x.condition(0, true), 1);
        UpdatePacks y = new UpdatePacks();
        Due.is("condition(1, true)", y.condition(1, true), 1);
        UpdatePacks z = Made.controllers(1);
        Made.pack(z, 1, 1, 1);
        Due.is("step writes", z.step(1), 2);
    }

    private static void objectsShareNothing() {
        UpdatePacks x = Made.controllers(2);
        Made.run(x, 1, 3);
        x.condition(0, false);
        UpdatePacks y = new UpdatePacks();
        Due.is("counter(1) of another", y.counter(1), -1);
        Due.is("joint() of another", y.joint(), 0);
        Due.is("condition(1, true) of another", y.condition(1, true), 1);
    }
}
