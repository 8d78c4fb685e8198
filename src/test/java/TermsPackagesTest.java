public final class TermsPackagesTest {
    public static void main(String[] args) {
        Due.sentence("PACKAGES are numbered from 1 on, at most 60.", TermsPackagesTest::numberedToSixty);
        Due.sentence("A controller has at most one that is OPEN", TermsPackagesTest::oneIsOpen);
        Due.sentence("in a STATE: 1 WRITING, with so many blocks written, 2 READY, 3 SWITCHED",
                TermsPackagesTest::states);
        Due.sentence("without one it is 0 IDLE", TermsPackagesTest::idle);
        Due.sentence("A block is 16 octets (the last one what is left).", TermsPackagesTest::blocks);
        Due.sentence("Two OPEN ones may be told to go TOGETHER", TermsPackagesTest::onlyOpenOnes);
        Due.sentence("then they are of one SET, with all that go together with either",
                TermsPackagesTest::withAllOfEither);
        Due.end();
    }

    private static void numberedToSixty() {
        UpdatePacks x = Made.controllers(8);
        for (int k = 1; k <= 60; k++) {
            int c = 1 + k % 8;
            x.octet((byte) c);
            Due.is("refused, so no number is used", x.package0(c, 1, false), -5);
            Due.is("package " + k, x.package0(c, 1, true), k);
        }
        for (int c = 1; c <= 8; c++) {
            x.octet((byte) c);
            Due.is("one more, for controller " + c, x.package0(c, 2, true), -4);
        }
        Due.is("there is no package 61", x.needs(60, 61), -1);
        Due.is("package 60 goes on", x.needs(59, 60), 2);
        Made.steps(x, 5, 2, 2);
        Made.steps(x, 4, 2, 2);
        Made.steps(x, 5, 3);
        Made.steps(x, 4, 3);
        Due.is("and runs", x.joint(), 1);
        Due.is("IDLE, and no room still", x.package0(5, 9, true), -4);
    }

    private static void oneIsOpen() {
        UpdatePacks x = Made.controllers(2);
        Made.pack(x, 2, 1, 1);
        Made.pack(x, 1, 1, 1);
        Due.is("2 is OPEN", x.needs(1, 2), 2);
        Made.pack(x, 1, 1, 1);
        Due.is("2 is not, with another", x.needs(1, 2), -3);
        Due.is("nor with the one instead of it", x.needs(2, 3), -3);
        Due.is("3 is OPEN", x.needs(1, 3), 2);
    }

    private static void states() {
        UpdatePacks x = Made.controllers(2);
        int one = Made.pack(x, 1, 1, 33);
        int two = Made.ready(x, 2, 1);
        x.needs(one, two);
        x.condition(0, false);
        Due.is("WRITING, none written", x.step(1), 1);
        x.condition(0, true);
        Due.is("WRITING, one written", x.step(1), 1);
        Due.is("WRITING, two written", x.step(1), 1);
        Due.is("READY", x.step(1), 2);
        Due.is("READY, COMMITTED", x.step(1), 2);
        Due.is("SWITCHED", x.step(1), 3);
        Due.is("SWITCHED still", x.step(1), 3);
    }

    private static void idle() {
        UpdatePacks x = Made.controllers(1);
        Made.steps(x, 1, 0, 0);
        Made.run(x, 1, 1);
        Made.steps(x, 1, 0, 0);
        Due.is("rollback()", x.rollback(), 1);
        Made.steps(x, 1, 0, 0);
    }

    private static void blocks() {
        for (int count : new int[] {1, 2, 15, 16, 17, 31, 32, 33, 47, 48, 239, 240, 241, 255, 256}) {
            UpdatePacks x = Made.controllers(1);
            Made.pack(x, 1, 1, count);
            for (int end = 16; end < count; end += 16) {
                Due.is("a block of " + count, x.step(1), 1);
                Due.is("its last octet", x.bank(1, 1, end - 1), Made.octet(1, end - 1));
                Due.is("the octet behind it", x.bank(1, 1, end), 0);
            }
            Due.is("the last block of " + count, x.step(1), 2);
            Due.is("the last octet of " + count, x.bank(1, 1, count - 1), Made.octet(1, count - 1));
            if (count < 256) {
                Due.is("the octet behind " + count, x.bank(1, 1, count), 0);
            }
        }
    }

    private static void onlyOpenOnes() {
        UpdatePacks x = Made.controllers(3);
        Made.run(x, 1, 1);
        Made.pack(x, 2, 1, 17);
        Made.ready(x, 3, 1);
        Due.is("one was OPEN once", x.needs(1, 2), -3);
        Due.is("the other way round", x.needs(2, 1), -3);
        Due.is("WRITING and READY", x.needs(2, 3), 2);
    }

    private static void withAllOfEither() {
        UpdatePacks x = Made.controllers(8);
        for (int k = 1; k <= 8; k++) {
            Made.ready(x, k, k);
        }
        Due.is("1 and 2", x.needs(1, 2), 2);
        Due.is("3 and 4", x.needs(3, 4), 2);
        Due.is("2 and 3: four", x.needs(2, 3), 4);
        Due.is("told already", x.needs(1, 4), 4);
        Due.is("the other way round", x.needs(4, 1), 4);
        Due.is("8 and 7", x.needs(8, 7), 2);
        Due.is("7 and 6", x.needs(7, 6), 3);
        Due.is("6 and 1: seven", x.needs(6, 1), 7);
        Due.is("5 goes alone: commit", x.step(5), 2);
        Due.is("5 goes alone: switch", x.step(5), 3);
        Due.is("a step commits all seven", x.step(7), 2);
        for (int k : new int[] {1, 2, 3, 4, 6, 7}) {
            Due.is("switch of " + k, x.step(k), 3);
            Due.is("its SET waits for 8", x.step(k), 3);
        }
        Due.is("8 is the last", x.step(8), 3);
        Due.is("1 is IDLE then", x.step(1), 0);
        Due.is("all go back", x.rollback(), 1);
        for (int k = 1; k <= 8; k++) {
            Due.is("5 alone does not: " + k, x.counter(k), k == 5 ? 5 : 0);
        }
    }
}
