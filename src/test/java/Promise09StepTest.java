public final class Promise09StepTest {
    public static void main(String[] args) {
        refusals();
        idle();
        intoTheBankThatDoesNotRun();
        theRestBecomesZero();
        commitThenSwitch();
        noCommitWhileOneIsAway(1, 2);
        noCommitWhileOneIsAway(2, 1);
        noCommitWhileOneIsWriting(1, 2);
        noCommitWhileOneIsWriting(2, 1);
        switchesOneByOne();
        switchesTheOtherWayRound();
        Due.end();
    }

    private static void refusals() {
        UpdatePacks x = Made.controllers(2);
        for (int c : new int[] {0, -1, 3, 9, Integer.MIN_VALUE, Integer.MAX_VALUE}) {
            Due.is("step(" + c + ")", x.step(c), -1);
        }
        x.silent(1, true);
        Due.is("SILENT", x.step(1), -3);
        Due.is("the other", x.step(2), 0);
        x.cut();
        Due.is("OFF", x.step(2), -3);
        x.boot(1);
        Due.is("ON, but SILENT", x.step(1), -3);
        x.silent(1, false);
        Due.is("ON and not SILENT", x.step(1), 0);
    }

    private static void idle() {
        UpdatePacks x = Made.controllers(1);
        Due.is("IDLE", x.step(1), 0);
        Due.is("IDLE again", x.step(1), 0);
        Made.run(x, 1, 1);
        Due.is("IDLE after a switch", x.step(1), 0);
    }

    private static void intoTheBankThatDoesNotRun() {
        UpdatePacks x = Made.controllers(1);
        Made.run(x, 1, 1);
        Made.pack(x, 1, 2, 16);
        Due.is("sixteen octets are one block", x.step(1), 2);
        Due.is("bank 0 has them", x.bank(1, 0, 15), Made.octet(1, 15));
        Due.is("bank 1 runs, and has not", x.bank(1, 1, 15), 0);
        Due.is("it runs edition 1", x.boot(1), 1);
        Made.pack(x, 1, 3, 17);
        Due.is("commit", x.step(1), 2);
        Due.is("switch", x.step(1), 3);
        Due.is("it runs edition 2", x.boot(1), 2);
        Due.is("seventeen", x.package0(1, 3, true), 3);
        Due.is("are two blocks", x.step(1), 1);
        Due.is("the second", x.step(1), 2);
        Due.is("bank 1 has them", x.bank(1, 1, 16), Made.octet(1, 16));
    }

    private static void theRestBecomesZero() {
        UpdatePacks x = Made.controllers(1);
        Made.pack(x, 1, 1, 64);
        for (int k = 0; k < 3; k++) {
            Due.is("a block", x.step(1), 1);
        }
        Made.pack(x, 1, 1, 18);
        Due.is("block 0", x.step(1), 1);
        Due.is("nothing is 0 before the last block", x.bank(1, 1, 40), Made.octet(1, 40));
        Due.is("block 1", x.step(1), 2);
        for (int i = 0; i < 256; i++) {
            Due.is("octet " + i, x.bank(1, 1, i), i < 18 ? Made.octet(1, i) : 0);
        }
    }

    private static void commitThenSwitch() {
        UpdatePacks x = Made.controllers(1);
        Made.ready(x, 1, 4);
        Due.is("the first of the two steps", x.step(1), 2);
        Due.is("nothing else happened", x.boot(1), 0);
        Due.is("the counter neither", x.counter(1), 0);
        Due.is("the second", x.step(1), 3);
        Due.is("it runs edition 4", x.boot(1), 4);
        Due.is("the counter", x.counter(1), 4);
    }

    private static void noCommitWhileOneIsAway(int stepping, int away) {
        UpdatePacks x = Made.controllers(2);
        int one = Made.ready(x, 1, 1);
        int two = Made.ready(x, 2, 1);
        x.needs(one, two);
        x.silent(away, true);
        Due.is(away + " is SILENT", x.step(stepping), 2);
        Due.is(away + " is SILENT still", x.step(stepping), 2);
        x.silent(away, false);
        x.cut();
        x.boot(stepping);
        Due.is(away + " is OFF", x.step(stepping), 2);
        Due.is(away + " is OFF still", x.step(stepping), 2);
        Due.is(away + " boots, and nothing was COMMITTED", x.boot(away), 0);
        Due.is("commit", x.step(stepping), 2);
        Due.is("switch", x.step(stepping), 3);
    }

    private static void noCommitWhileOneIsWriting(int stepping, int writing) {
        UpdatePacks x = Made.controllers(2);
        int one = Made.ready(x, stepping, 1);
        int two = Made.pack(x, writing, 1, 17);
        x.needs(one, two);
        x.step(writing);
        Due.is(writing + " is WRITING", x.step(stepping), 2);
        Due.is(writing + " is WRITING still", x.step(stepping), 2);
        Due.is(writing + " is READY", x.step(writing), 2);
        Due.is("commit", x.step(writing), 2);
        Due.is("switch", x.step(stepping), 3);
    }

    private static void switchesOneByOne() {
        UpdatePacks x = Made.committedPair();
        Due.is("1 switches", x.step(1), 3);
        Due.is("1 is SWITCHED", x.step(1), 3);
        Due.is("1 runs", x.counter(1), 5);
        Due.is("2 does not", x.counter(2), 0);
        x.silent(1, true);
        Due.is("2 switches, whoever is SILENT", x.step(2), 3);
        x.silent(1, false);
        Due.is("1 is IDLE", x.step(1), 0);
        Due.is("2 is IDLE", x.step(2), 0);
        Due.is("2 runs", x.counter(2), 6);
    }

    private static void switchesTheOtherWayRound() {
        UpdatePacks x = Made.committedPair();
        Due.is("2 switches", x.step(2), 3);
        Due.is("2 is SWITCHED", x.step(2), 3);
        Due.is("no LAST SET yet", x.joint(), 0);
        Due.is("1 switches", x.step(1), 3);
        Due.is("2 is IDLE", x.step(2), 0);
        Due.is("the LAST SET", x.joint(), 1);
    }
}
