import java.util.Random;

/** Random runs of 512 calls, the program beside the model; an exception that is not due ends the test. */
public final class RandomRunsTest {
    private static final int RUNS = 3000;
    private static final int CALLS = 512;
    private static final int[] WILD = {Integer.MIN_VALUE, -1, 0, 9, 16, 61, 128, 256, 1001, Integer.MAX_VALUE};

    private final Random random;
    private final UpdatePacks x = new UpdatePacks();
    private final Model model = new Model();
    private final int units;
    private int used = 0;

    private RandomRunsTest(int seed) {
        random = new Random(seed);
        units = 1 + random.nextInt(8);
    }

    public static void main(String[] args) {
        for (int seed = 0; seed < RUNS; seed++) {
            new RandomRunsTest(seed).run(seed);
        }
        Due.end();
    }

    private void run(int seed) {
        for (int k = 1; k <= units; k++) {
            same(seed, "controller", x.controller(k), model.controller(k));
        }
        while (used < CALLS) {
            // Whole packages now and then, or few would be made at all.
            if (used < CALLS - 1 && random.nextInt(6) == 0) {
                offer(seed);
            } else {
                oneCall(seed);
            }
        }
    }

    private void same(int seed, String call, long got, long want) {
        used++;
        Due.is("run " + seed + ", call " + used + ": " + call, got, want);
    }

    private int wildOr(int usual) {
        return random.nextInt(25) == 0 ? WILD[random.nextInt(WILD.length)] : usual;
    }

    private int someUnit() {
        return wildOr(1 + random.nextInt(units));
    }

    private int somePackage() {
        return wildOr(Math.max(1, model.items.size() - random.nextInt(units + 1)));
    }

    private void putOctet(int seed, byte b) {
        x.octet(b);
        same(seed, "octet", 0, model.octet(b));
    }

    private void offer(int seed) {
        int c = someUnit();
        if (model.octets.isEmpty()) {
            putOctet(seed, (byte) c);
        }
        for (int more = random.nextInt(random.nextInt(20) == 0 ? 300 : 20); more > 0 && used < CALLS - 1; more--) {
            putOctet(seed, (byte) random.nextInt());
        }
        int edition = wildOr(1 + random.nextInt(20) + (used / 20));
        boolean signed = random.nextInt(10) != 0;
        same(seed, "package0", x.package0(c, edition, signed), model.package0(c, edition, signed));
    }

    private void oneCall(int seed) {
        int c = someUnit();
        boolean yes = random.nextInt(4) != 0;
        switch (random.nextInt(24)) {
            case 0 -> same(seed, "silent", x.silent(c, !yes), model.silent(c, !yes));
            case 1 -> {
                int kind = wildOr(random.nextInt(2));
                same(seed, "condition", x.condition(kind, yes), model.condition(kind, yes));
            }
            case 2 -> same(seed, "joint", x.joint(), model.joint());
            case 3 -> {
                if (random.nextInt(3) == 0) {
                    same(seed, "rollback", x.rollback(), model.rollback());
                }
            }
            case 4 -> {
                if (random.nextInt(3) == 0) {
                    same(seed, "cut", x.cut(), model.cut());
                }
            }
            case 5, 6, 7 -> same(seed, "boot", x.boot(c), model.boot(c));
            case 8 -> same(seed, "counter", x.counter(c), model.counter(c));
            case 9 -> {
                int n = wildOr(random.nextInt(3));
                byte b = (byte) random.nextInt(8);
                same(seed, "block", x.block(c, n, b), model.block(c, n, b));
            }
            case 10 -> {
                int i = wildOr(random.nextInt(32));
                same(seed, "digest", digest(i), model.digest(i));
            }
            case 11, 12 -> {
                int b = wildOr(random.nextInt(2));
                long i = random.nextInt(25) == 0 ? random.nextLong() : wildOr(random.nextInt(40));
                same(seed, "bank", bank(c, b, i), model.bank(c, b, i));
            }
            case 13, 14 -> {
                int p = somePackage();
                int q = somePackage();
                same(seed, "needs", x.needs(p, q), model.needs(p, q));
            }
            default -> same(seed, "step", x.step(c), model.step(c));
        }
    }

    private long digest(int i) {
        try {
            return x.digest(i);
        } catch (ArrayIndexOutOfBoundsException e) {
            return Model.THROWS;
        }
    }

    private long bank(int c, int b, long i) {
        try {
            return x.bank(c, b, i);
        } catch (ArrayIndexOutOfBoundsException e) {
            return Model.THROWS;
        }
    }
}
