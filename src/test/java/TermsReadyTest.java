public final class TermsReadyTest {
    public static void main(String[] args) {
        Due.sentence("if its SET is not COMMITTED", TermsReadyTest::eachSetAnew);
        Due.sentence("if its SET is not COMMITTED, and each of its packages is READY", TermsReadyTest::eachIsReady);
        Due.sentence("no controller of them is SILENT or OFF", TermsReadyTest::noneIsAway);
        Due.sentence("no controller of them", TermsReadyTest::othersMayBeAway);
        Due.sentence("and both CONDITIONS hold, it is COMMITTED", TermsReadyTest::bothHold);
        Due.sentence("(that is the first of the two steps), and nothing else happens", TermsReadyTest::nothingElse);
        Due.sentence("If it was COMMITTED, the controller SWITCHES", TermsReadyTest::switchesWhateverHolds);
        Due.sentence("the other bank RUNS", TermsReadyTest::otherBankRuns);
        Due.sentence("its COUNTER is the EDITION", TermsReadyTest::counterIsTheEdition);
        Due.sentence("the package is SWITCHED", TermsReadyTest::isSwitched);
        Due.sentence("When all of a SET are, they are OPEN no more", TermsReadyTest::openNoMore);
        Due.sentence("and the SET is the LAST one", TermsReadyTest::theLastOne);
        Due.end();
    }

    private static void eachSetAnew() {
        UpdatePacks x = Made.pairThatRuns();
        for (int edition = 7; edition <= 9; edition++) {
            Made.ready(x, 1, edition);
            x.condition(0, false);
            Made.steps(x, 1, 2, 2);
            Due.is("the SET before was COMMITTED, this one is not", x.counter(1), edition == 7 ? 5 : edition - 1);
            x.condition(0, true);
            Made.steps(x, 1, 2, 3, 0);
        }
    }

    /** Every one of a SET of three in turn is the one that is not READY yet. */
    private static void eachIsReady() {
        for (int late = 1; late <= 3; late++) {
            UpdatePacks x = Made.controllers(3);
            for (int k = 1; k <= 3; k++) {
                Made.pack(x, k, 1, k == late ? 17 : 1);
                Due.is("step(" + k + ")", x.step(k), k == late ? 1 : 2);
            }
            x.needs(1, 2);
            Due.is("three", x.needs(3, 2), 3);
            for (int k = 1; k <= 3; k++) {
                if (k != late) {
                    Made.steps(x, k, 2, 2, 2);
                    Due.is("it does not run", x.counter(k), 0);
                }
            }
            Due.is("READY too", x.step(late), 2);
            Due.is("COMMITTED by it", x.step(late), 2);
            for (int k = 1; k <= 3; k++) {
                Due.is("switch of " + k, x.step(k), 3);
            }
        }
    }

    private static void noneIsAway() {
        for (int away = 1; away <= 2; away++) {
            int there = 3 - away;
            UpdatePacks x = Made.readyPair();
            x.silent(away, true);
            Made.steps(x, there, 2, 2);
            x.cut();
            x.boot(there);
            Made.steps(x, there, 2, 2);
            x.silent(away, false);
            Made.steps(x, there, 2, 2);
            Due.is("nothing was COMMITTED while it was OFF", x.boot(away), 0);
            Due.is("nothing runs", x.counter(there), 0);
            Made.steps(x, there, 2, 3);
        }
    }

    private static void othersMayBeAway() {
        UpdatePacks x = Made.readyPair();
        Made.pack(x, 3, 1, 17);
        x.silent(3, true);
        x.cut();
        x.boot(1);
        x.boot(2);
        Made.steps(x, 1, 2, 3);
        Due.is("the SET switches without 3", x.step(2), 3);
        Due.is("and is the LAST one", x.joint(), 1);
    }

    private static void bothHold() {
        for (int which = 0; which < 3; which++) {
            UpdatePacks x = Made.readyPair();
            x.condition(0, which == 0);
            x.condition(1, which == 1);
            Made.steps(x, 1, 2, 2);
            Made.steps(x, 2, 2, 2);
            Due.is("nothing runs", x.counter(1), 0);
            x.condition(0, true);
            x.condition(1, true);
            Made.steps(x, 2, 2, 3);
        }
    }

    private static void nothingElse() {
        UpdatePacks x = Made.readyPair();
        Made.ready(x, 3, 1);
        Due.is("COMMITTED", x.step(2), 2);
        x.condition(0, false);
        Due.is("3 is READY, and not of it", x.step(3), 2);
        Due.is("nor COMMITTED with it", x.step(3), 2);
        x.condition(0, true);
        for (int c = 1; c <= 2; c++) {
            Due.is("bank 0 runs on " + c, x.boot(c), 0);
            Due.is("the COUNTER of " + c, x.counter(c), 0);
            Due.is("bank 0 of " + c, x.bank(c, 0, 0), 0);
            Due.is("bank 1 of " + c, x.bank(c, 1, 0), c);
        }
        Due.is("no LAST SET", x.joint(), 0);
        Due.is("the second of the two steps, of the other", x.step(1), 3);
        Due.is("2 is READY still", x.counter(2), 0);
        Due.is("and of itself", x.step(2), 3);
    }

    private static void switchesWhateverHolds() {
        UpdatePacks x = Made.committedPair();
        x.condition(0, false);
        x.condition(1, false);
        x.silent(2, true);
        Due.is("no CONDITION, and 2 SILENT", x.step(1), 3);
        UpdatePacks y = Made.committedPair();
        y.silent(1, true);
        Due.is("1 SILENT", y.step(2), 3);
        y.cut();
        Due.is("1 switches when it boots", y.boot(1), 5);
        UpdatePacks z = Made.committedPair();
        Due.is("2 switches", z.step(2), 3);
        Due.is("and does not do it again", z.step(2), 3);
        Due.is("it runs edition 6", z.boot(2), 6);
    }

    private static void otherBankRuns() {
        UpdatePacks x = Made.controllers(1);
        for (int edition = 1; edition <= 3; edition++) {
            Made.ready(x, 1, edition);
            Made.steps(x, 1, 2);
            Due.is("before", x.boot(1), edition - 1);
            Made.steps(x, 1, 3);
            Due.is("after", x.boot(1), edition);
        }
    }

    private static void counterIsTheEdition() {
        UpdatePacks x = Made.committedPair();
        Made.steps(x, 2, 3);
        Due.is("of 2", x.counter(2), 6);
        Due.is("not of 1 yet", x.counter(1), 0);
        Made.steps(x, 1, 3);
        Due.is("of 1", x.counter(1), 5);
        Due.is("of 2 still", x.counter(2), 6);
        UpdatePacks y = Made.controllers(1);
        Made.run(y, 1, 999);
        Made.run(y, 1, 1000);
        Due.is("the greatest", y.counter(1), 1000);
    }

    private static void isSwitched() {
        UpdatePacks x = Made.committedPair();
        Made.steps(x, 1, 3, 3, 3);
        Due.is("it is OPEN still: no other", Made.pack(x, 1, 9, 1), -3);
        Due.is("it runs once", x.boot(1), 5);
        Made.steps(x, 2, 3);
        Due.is("now another may come", x.package0(1, 9, true), 3);
    }

    private static void openNoMore() {
        for (int first = 1; first <= 2; first++) {
            UpdatePacks x = Made.committedPair();
            Made.steps(x, first, 3, 3);
            Made.steps(x, 3 - first, 3, 0);
            Made.steps(x, first, 0);
            Made.pack(x, 3, 1, 1);
            Due.is("package 1 is OPEN no more", x.needs(1, 3), -3);
            Due.is("nor is package 2", x.needs(3, 2), -3);
        }
        UpdatePacks x = Made.controllers(1);
        Made.run(x, 1, 1);
        Due.is("a SET of one", x.step(1), 0);
    }

    private static void theLastOne() {
        UpdatePacks x = Made.committedPair();
        Made.steps(x, 1, 3);
        Due.is("not with one of them", x.rollback(), 0);
        Made.steps(x, 2, 3);
        Due.is("with both", x.joint(), 1);
        Made.run(x, 3, 7);
        Due.is("the next instead of it", x.joint(), 1);
        Due.is("rollback()", x.rollback(), 1);
        Due.is("3 went back", x.counter(3), 0);
        Due.is("1 did not", x.counter(1), 5);
        Due.is("2 did not", x.counter(2), 6);
    }
}
