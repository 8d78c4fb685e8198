public final class Promise16CounterTest {
    public static void main(String[] args) {
        Due.sentence("A controller's COUNTER.", Promise16CounterTest::itsCounter);
        Due.sentence("-1 there is none", Promise16CounterTest::thereIsNone);
        Due.end();
    }

    private static void itsCounter() {
        UpdatePacks x = Made.controllers(2);
        Due.is("at first", x.counter(1), 0);
        Made.ready(x, 1, 999);
        Due.is("READY", x.counter(1), 0);
        Made.steps(x, 1, 2);
        Due.is("COMMITTED", x.counter(1), 0);
        Made.steps(x, 1, 3);
        Due.is("SWITCHED", x.counter(1), 999);
        Due.is("the other", x.counter(2), 0);
        Made.run(x, 1, 1000);
        Due.is("the next", x.counter(1), 1000);
        x.silent(1, true);
        x.cut();
        Due.is("OFF and SILENT", x.counter(1), 1000);
        x.boot(1);
        x.silent(1, false);
        x.rollback();
        Due.is("gone back", x.counter(1), 999);
    }

    private static void thereIsNone() {
        UpdatePacks x = Made.controllers(7);
        for (int c : Made.noController(7)) {
            Due.is("counter(" + c + ")", x.counter(c), -1);
        }
        Due.is("the first", x.counter(1), 0);
        Due.is("the last", x.counter(7), 0);
        x.controller(8);
        Due.is("the eighth", x.counter(8), 0);
    }
}
