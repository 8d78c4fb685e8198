public final class Promise16CounterTest {
    public static void main(String[] args) {
        UpdatePacks x = Made.controllers(2);
        for (int c : new int[] {0, -1, 3, 9, Integer.MIN_VALUE, Integer.MAX_VALUE}) {
            Due.is("counter(" + c + ")", x.counter(c), -1);
        }
        Due.is("at first", x.counter(1), 0);
        Made.ready(x, 1, 1000);
        Due.is("READY", x.counter(1), 0);
        x.step(1);
        Due.is("COMMITTED", x.counter(1), 0);
        x.step(1);
        Due.is("SWITCHED", x.counter(1), 1000);
        Due.is("the other", x.counter(2), 0);
        x.silent(1, true);
        x.cut();
        Due.is("OFF and SILENT", x.counter(1), 1000);
        x.boot(1);
        x.silent(1, false);
        x.rollback();
        Due.is("gone back", x.counter(1), 0);
        Due.end();
    }
}
