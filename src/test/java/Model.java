import java.security.MessageDigest;
import java.security.NoSuchAlgorithmException;
import java.util.ArrayList;
import java.util.HashSet;
import java.util.List;
import java.util.Set;

/** The document once more, written apart from the program: packages and SETS are objects, kept for ever. */
final class Model {
    /** What stands for an ArrayIndexOutOfBoundsException. */
    static final long THROWS = Long.MIN_VALUE;

    enum State { GONE, WRITING, READY, SWITCHED }

    static final class Together {
        final Set<Item> items = new HashSet<>();
        boolean committed;
    }

    static final class Item {
        final Unit unit;
        final int edition;
        final byte[] octets;
        State state = State.WRITING;
        int written;
        Together together = new Together();

        Item(Unit unit, int edition, byte[] octets) {
            this.unit = unit;
            this.edition = edition;
            this.octets = octets;
            together.items.add(this);
        }
    }

    static final class Unit {
        final int hardware;
        final byte[][] banks = new byte[2][256];
        final int[] editions = new int[2];
        final Item[] holds = new Item[2];
        int runs;
        int counter;
        boolean on = true;
        boolean silent;
        Integer faultBlock;
        byte fault;
        Item open;

        Unit(int hardware) {
            this.hardware = hardware;
        }
    }

    final List<Unit> units = new ArrayList<>();
    final List<Item> items = new ArrayList<>();
    final List<Byte> octets = new ArrayList<>();
    final boolean[] conditions = {true, true};
    Together last;

    private Unit unit(int number) {
        return number >= 1 && number <= units.size() ? units.get(number - 1) : null;
    }

    private Item item(int number) {
        return number >= 1 && number <= items.size() ? items.get(number - 1) : null;
    }

    private boolean hold() {
        return conditions[0] && conditions[1];
    }

    long controller(int hardware) {
        if (hardware < 1 || hardware > 127) {
            return -2;
        }
        if (units.size() == 8) {
            return -4;
        }
        units.add(new Unit(hardware));
        return units.size();
    }

    long octet(byte b) {
        if (octets.size() < 256) {
            octets.add(b);
        }
        return 0;
    }

    long package0(int controller, int edition, boolean signed) {
        Unit u = unit(controller);
        if (u == null) {
            return -1;
        } else if (edition < 1 || edition > 1000 || octets.isEmpty()) {
            return -2;
        } else if (u.open != null && u.open.state != State.WRITING) {
            return -3;
        } else if (items.size() == 60) {
            return -4;
        } else if (!signed) {
            return -5;
        } else if (octets.get(0) != u.hardware) {
            return -6;
        } else if (edition <= u.counter) {
            return -7;
        }
        if (u.open != null) {
            u.open.together.items.remove(u.open);
            u.open.state = State.GONE;
        }
        byte[] own = new byte[octets.size()];
        for (int i = 0; i < own.length; i++) {
            own[i] = octets.get(i);
        }
        octets.clear();
        u.open = new Item(u, edition, own);
        items.add(u.open);
        return items.size();
    }

    long digest(int i) {
        if (items.isEmpty() || i < 0 || i > 31) {
            return THROWS;
        }
        try {
            return MessageDigest.getInstance("SHA-256").digest(items.get(items.size() - 1).octets)[i];
        } catch (NoSuchAlgorithmException e) {
            throw new IllegalStateException(e);
        }
    }

    long needs(int package0, int other) {
        Item a = item(package0);
        Item b = item(other);
        if (a == null || b == null) {
            return -1;
        } else if (a == b) {
            return -2;
        } else if (a.state == State.GONE || b.state == State.GONE || a.together.committed || b.together.committed) {
            return -3;
        }
        Together both = new Together();
        both.items.addAll(a.together.items);
        both.items.addAll(b.together.items);
        for (Item i : both.items) {
            i.together = both;
        }
        return both.items.size();
    }

    long block(int controller, int n, byte b) {
        Unit u = unit(controller);
        if (u == null) {
            return -1;
        } else if (n < 0 || n > 15 || b == 0) {
            return -2;
        }
        u.faultBlock = n;
        u.fault = b;
        return 1;
    }

    long condition(int kind, boolean holds) {
        if (kind != 0 && kind != 1) {
            return -1;
        }
        conditions[kind] = holds;
        return hold() ? 1 : 0;
    }

    long step(int controller) {
        Unit u = unit(controller);
        if (u == null) {
            return -1;
        } else if (!u.on || u.silent) {
            return -3;
        } else if (u.open == null) {
            return 0;
        }
        Item i = u.open;
        switch (i.state) {
            case WRITING:
                if (hold()) {
                    write(u, i);
                }
                break;
            case READY:
                if (i.together.committed) {
                    switchOver(u, i);
                    return 3;
                }
                i.together.committed = hold() && i.together.items.stream()
                        .allMatch(o -> o.state == State.READY && o.unit.on && !o.unit.silent);
                break;
            default:
                break;
        }
        return i.state.ordinal();
    }

    private void write(Unit u, Item i) {
        int off = 1 - u.runs;
        boolean bad = u.faultBlock != null && u.faultBlock == i.written;
        for (int k = 0; k < 256; k++) {
            if (k / 16 == i.written && k < i.octets.length) {
                u.banks[off][k] = (byte) (bad ? i.octets[k] ^ u.fault : i.octets[k]);
            }
        }
        if (bad) {
            u.faultBlock = null;
            return;
        }
        i.written++;
        if (16 * i.written >= i.octets.length) {
            for (int k = i.octets.length; k < 256; k++) {
                u.banks[off][k] = 0;
            }
            u.editions[off] = i.edition;
            u.holds[off] = i;
            i.state = State.READY;
        }
    }

    private void switchOver(Unit u, Item i) {
        u.runs = 1 - u.runs;
        u.counter = i.edition;
        i.state = State.SWITCHED;
        if (i.together.items.stream().allMatch(o -> o.state == State.SWITCHED)) {
            last = i.together;
            for (Item o : last.items) {
                o.state = State.GONE;
                o.unit.open = null;
            }
        }
    }

    long cut() {
        long on = units.stream().filter(u -> u.on).count();
        for (Unit u : units) {
            u.on = false;
        }
        for (Item i : items) {
            if (i.state == State.WRITING) {
                i.written = Math.max(0, i.written - 1);
            }
        }
        return on;
    }

    long boot(int controller) {
        Unit u = unit(controller);
        if (u == null) {
            return -1;
        }
        boolean wasOff = !u.on;
        u.on = true;
        if (wasOff && u.open != null && u.open.state == State.READY && u.open.together.committed) {
            switchOver(u, u.open);
        }
        return u.editions[u.runs];
    }

    long bank(int controller, int b, long i) {
        Unit u = unit(controller);
        if (u == null) {
            return 0;
        }
        return b < 0 || b > 1 || i < 0 || i > 255 ? THROWS : u.banks[b][(int) i];
    }

    long joint() {
        return last != null && last.items.stream().allMatch(i -> i.unit.holds[i.unit.runs] == i) ? 1 : 0;
    }

    long rollback() {
        if (last == null || !last.items.stream().allMatch(i -> i.unit.on && !i.unit.silent && i.unit.open == null)) {
            return 0;
        }
        for (Item i : last.items) {
            i.unit.runs = 1 - i.unit.runs;
            i.unit.counter = i.unit.editions[i.unit.runs];
        }
        last = null;
        return 1;
    }

    long silent(int controller, boolean on) {
        Unit u = unit(controller);
        if (u == null) {
            return -1;
        }
        boolean before = u.silent;
        u.silent = on;
        return before == on ? 0 : 1;
    }

    long counter(int controller) {
        Unit u = unit(controller);
        return u == null ? -1 : u.counter;
    }
}
