/** What every test here counts with: prints each answer that is not the one due, and ends with exit code 1 then. */
final class Due {
    interface Call {
        long answer();
    }

    private static int wrong = 0;
    private static int checked = 0;

    private Due() {
    }

    /** One sentence of the document and its own test: printed if the test finds that it does not hold. */
    static void sentence(String words, Runnable test) {
        int wrongBefore = wrong;
        int checkedBefore = checked;
        try {
            test.run();
        } catch (RuntimeException e) {
            wrong++;
            System.out.println("a call threw what is not due: " + e);
        }
        if (checked == checkedBefore) {
            wrong++;
            System.out.println("the test looked at no answer");
        }
        if (wrong != wrongBefore) {
            System.out.println("does not hold: \"" + words + "\"");
        }
    }

    static void is(String call, long got, long want) {
        checked++;
        if (got != want) {
            wrong++;
            System.out.println(call + " answered " + got + ", due is " + want);
        }
    }

    static void throwsIndex(String call, Call c) {
        checked++;
        try {
            long got = c.answer();
            wrong++;
            System.out.println(call + " answered " + got + ", due is an ArrayIndexOutOfBoundsException");
        } catch (ArrayIndexOutOfBoundsException due) {
            // The machine's own text begins so; the program must look at the index and throw by itself.
            if (due.getMessage() != null && due.getMessage().startsWith("Index ")) {
                wrong++;
                System.out.println(call + " left the exception to the machine: " + due.getMessage());
            }
        }
    }

    static void end() {
        System.out.println(checked + " answers looked at, " + wrong + " not as due");
        if (checked == 0 || wrong != 0) {
            System.exit(1);
        }
    }
}
