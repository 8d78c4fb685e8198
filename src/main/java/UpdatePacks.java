/** Updates for controllers: ../shared/DOC.md says what each call answers, in capitals the words used here. */
public final class UpdatePacks {
    private static final int UNKNOWN = -1;
    private static final int OUTSIDE = -2;
    private static final int NOT_NOW = -3;
    private static final int NO_ROOM = -4;
    private static final int NO_SIGN = -5;
    private static final int OTHER_HARDWARE = -6;
    private static final int OLD_EDITION = -7;
    private static final int ACCEPTED = 0;

    private static final int IDLE = 0;
    private static final int WRITING = 1;
    private static final int READY = 2;
    private static final int SWITCHED = 3;

    private static final int MOST_CONTROLLERS = 8;
    private static final int MOST_PACKAGES = 60;
    private static final int MOST_HARDWARE = 127;
    private static final int MOST_EDITION = 1000;
    private static final int BANK_SIZE = 256;
    private static final int BANKS = 2;
    private static final int BLOCK_SIZE = 16;
    private static final int DIGEST_SIZE = 32;

    private final Controller[] controllers;
    private int controllerCount;
    private int packageCount;
    private final byte[] octets;
    private int octetCount;
    private boolean parked;
    private boolean battery;
    private final Digester digester;

    public UpdatePacks() {
        controllers = new Controller[MOST_CONTROLLERS];
        octets = new byte[BANK_SIZE];
        parked = true;
        battery = true;
        digester = new Digester();
    }

    public int controller(int hardware) {
        if (hardware < 1 || hardware > MOST_HARDWARE) {
            return OUTSIDE;
        }
        if (controllerCount >= MOST_CONTROLLERS) {
            return NO_ROOM;
        }
        controllers[controllerCount] = new Controller(hardware);
        controllerCount++;
        return controllerCount;
    }

    public void octet(byte b) {
        if (octetCount < BANK_SIZE) {
            octets[octetCount] = b;
            octetCount++;
        }
    }

    public int package0(int controller, int edition, boolean signed) {
        Controller c = find(controller);
        if (c == null) {
            return UNKNOWN;
        }
        int refusal = refusalOf(c, edition, signed);
        if (refusal != ACCEPTED) {
            return refusal;
        }
        packageCount++;
        c.pack.begin(packageCount, edition, octets, octetCount);
        digester.digestOf(octets, octetCount);
        octetCount = 0;
        return packageCount;
    }

    public byte digest(int i) throws ArrayIndexOutOfBoundsException {
        if (packageCount == 0 || i < 0 || i >= DIGEST_SIZE) {
            throw new ArrayIndexOutOfBoundsException("no such octet of a digest");
        }
        return digester.resultOctet(i);
    }

    public int needs(int package0, int other) {
        if (!isPackage(package0) || !isPackage(other)) {
            return UNKNOWN;
        }
        if (package0 == other) {
            return OUTSIDE;
        }
        Pack one = findOpen(package0);
        Pack two = findOpen(other);
        if (one == null || two == null || one.committed || two.committed) {
            return NOT_NOW;
        }
        return joinSets(one.set, two.set);
    }

    public int block(int controller, int n, byte b) {
        Controller c = find(controller);
        if (c == null) {
            return UNKNOWN;
        }
        if (n < 0 || n >= BANK_SIZE / BLOCK_SIZE || b == 0) {
            return OUTSIDE;
        }
        c.faultBlock = n;
        c.fault = b;
        return 1;
    }

    public int condition(int kind, boolean holds) {
        if (kind == 0) {
            parked = holds;
        } else if (kind == 1) {
            battery = holds;
        } else {
            return UNKNOWN;
        }
        return bothHold() ? 1 : 0;
    }

    public int step(int controller) {
        Controller c = find(controller);
        if (c == null) {
            return UNKNOWN;
        }
        if (c.isAway()) {
            return NOT_NOW;
        }
        if (c.pack.state == READY) {
            return stepOfReady(c);
        }
        if (c.pack.state == WRITING && bothHold()) {
            c.writeNextBlock();
        }
        return c.pack.state;
    }

    public int cut() {
        int wereOn = 0;
        for (int k = 0; k < controllerCount; k++) {
            Controller c = controllers[k];
            if (!c.off) {
                wereOn++;
            }
            c.off = true;
            c.pack.loseBlock();
        }
        return wereOn;
    }

    public int boot(int controller) {
        Controller c = find(controller);
        if (c == null) {
            return UNKNOWN;
        }
        if (c.off) {
            c.off = false;
            if (c.pack.state == READY && c.pack.committed) {
                switchBanks(c);
            }
        }
        return c.runningBank().edition;
    }

    public byte bank(int controller, int b, long i) throws ArrayIndexOutOfBoundsException {
        Controller c = find(controller);
        if (c == null) {
            return 0;
        }
        if (b < 0 || b >= BANKS || i < 0 || i >= BANK_SIZE) {
            throw new ArrayIndexOutOfBoundsException("no such bank or octet");
        }
        return c.banks[b].octets[(int) i];
    }

    public int joint() {
        if (!hasLastSet()) {
            return 0;
        }
        for (int k = 0; k < controllerCount; k++) {
            Controller c = controllers[k];
            if (c.isOfLastSet() && c.runningBank().packNumber != c.lastPack) {
                return 0;
            }
        }
        return 1;
    }

    public int rollback() {
        if (!hasLastSet() || !lastSetMayGoBack()) {
            return 0;
        }
        for (int k = 0; k < controllerCount; k++) {
            Controller c = controllers[k];
            if (c.isOfLastSet()) {
                c.runOtherBank();
                c.lastPack = 0;
            }
        }
        return 1;
    }

    public int silent(int controller, boolean on) {
        Controller c = find(controller);
        if (c == null) {
            return UNKNOWN;
        }
        boolean changed = c.silent != on;
        c.silent = on;
        return changed ? 1 : 0;
    }

    public int counter(int controller) {
        Controller c = find(controller);
        if (c == null) {
            return UNKNOWN;
        }
        return c.counter;
    }

    private Controller find(int number) {
        if (number < 1 || number > controllerCount) {
            return null;
        }
        return controllers[number - 1];
    }

    private boolean isPackage(int number) {
        return number >= 1 && number <= packageCount;
    }

    private Pack findOpen(int number) {
        for (int k = 0; k < controllerCount; k++) {
            Pack p = controllers[k].pack;
            if (p.state != IDLE && p.number == number) {
                return p;
            }
        }
        return null;
    }

    private boolean bothHold() {
        return parked && battery;
    }

    private int refusalOf(Controller c, int edition, boolean signed) {
        if (edition < 1 || edition > MOST_EDITION || octetCount == 0) {
            return OUTSIDE;
        }
        if (c.pack.state == READY || c.pack.state == SWITCHED) {
            return NOT_NOW;
        }
        if (packageCount >= MOST_PACKAGES) {
            return NO_ROOM;
        }
        if (!signed) {
            return NO_SIGN;
        }
        if (octets[0] != c.hardware) {
            return OTHER_HARDWARE;
        }
        return edition <= c.counter ? OLD_EDITION : ACCEPTED;
    }

    private int joinSets(int set, int joining) {
        int size = 0;
        for (int k = 0; k < controllerCount; k++) {
            Pack p = controllers[k].pack;
            if (p.isOf(set) || p.isOf(joining)) {
                p.set = set;
                size++;
            }
        }
        return size;
    }

    private int stepOfReady(Controller c) {
        if (c.pack.committed) {
            switchBanks(c);
            // The package may be OPEN no more by now, and the answer is SWITCHED all the same.
            return SWITCHED;
        }
        if (bothHold() && allCanCommit(c.pack.set)) {
            commit(c.pack.set);
        }
        return READY;
    }

    private boolean allCanCommit(int set) {
        for (int k = 0; k < controllerCount; k++) {
            Controller c = controllers[k];
            if (c.pack.isOf(set) && (c.pack.state != READY || c.isAway())) {
                return false;
            }
        }
        return true;
    }

    private void commit(int set) {
        for (int k = 0; k < controllerCount; k++) {
            Pack p = controllers[k].pack;
            if (p.isOf(set)) {
                p.committed = true;
            }
        }
    }

    private void switchBanks(Controller c) {
        c.runOtherBank();
        c.pack.state = SWITCHED;
        if (allSwitched(c.pack.set)) {
            makeLastSet(c.pack.set);
        }
    }

    private boolean allSwitched(int set) {
        for (int k = 0; k < controllerCount; k++) {
            Pack p = controllers[k].pack;
            if (p.isOf(set) && p.state != SWITCHED) {
                return false;
            }
        }
        return true;
    }

    private void makeLastSet(int set) {
        for (int k = 0; k < controllerCount; k++) {
            Controller c = controllers[k];
            if (c.pack.isOf(set)) {
                c.lastPack = c.pack.number;
                c.pack.state = IDLE;
            } else {
                c.lastPack = 0;
            }
        }
    }

    private boolean hasLastSet() {
        for (int k = 0; k < controllerCount; k++) {
            if (controllers[k].isOfLastSet()) {
                return true;
            }
        }
        return false;
    }

    private boolean lastSetMayGoBack() {
        for (int k = 0; k < controllerCount; k++) {
            Controller c = controllers[k];
            if (c.isOfLastSet() && (c.isAway() || c.pack.state != IDLE)) {
                return false;
            }
        }
        return true;
    }

    private static final class Bank {
        final byte[] octets;
        int edition;
        /** The package that the bank holds whole, 0 for none. */
        int packNumber;

        Bank() {
            octets = new byte[BANK_SIZE];
        }
    }

    /** A controller's OPEN package; IDLE when it has none. One object serves all its packages, to keep memory small. */
    private static final class Pack {
        final byte[] octets;
        int length;
        int number;
        int edition;
        int state;
        int written;
        /** The SET bears the number of one of its packages, so that no two SETS ever share one. */
        int set;
        /** Told to each package of a SET alike: a COMMITTED SET neither grows nor shrinks. */
        boolean committed;

        Pack() {
            octets = new byte[BANK_SIZE];
        }

        void begin(int newNumber, int newEdition, byte[] source, int count) {
            for (int i = 0; i < count; i++) {
                octets[i] = source[i];
            }
            length = count;
            number = newNumber;
            edition = newEdition;
            state = WRITING;
            written = 0;
            set = newNumber;
            committed = false;
        }

        boolean isOf(int wantedSet) {
            return state != IDLE && set == wantedSet;
        }

        void loseBlock() {
            if (state == WRITING && written > 0) {
                written--;
            }
        }
    }

    private static final class Controller {
        final int hardware;
        final Bank[] banks;
        final Pack pack;
        int running;
        int counter;
        boolean off;
        boolean silent;
        int faultBlock;
        /** What a FAULT does to each octet of its block; 0 when none is told. */
        byte fault;
        /** Its package in the LAST SET, 0 when it is not of that. */
        int lastPack;

        Controller(int hardware) {
            this.hardware = hardware;
            banks = new Bank[BANKS];
            banks[0] = new Bank();
            banks[1] = new Bank();
            pack = new Pack();
        }

        boolean isAway() {
            return off || silent;
        }

        boolean isOfLastSet() {
            return lastPack != 0;
        }

        Bank runningBank() {
            return banks[running];
        }

        void runOtherBank() {
            running = 1 - running;
            counter = banks[running].edition;
        }

        void writeNextBlock() {
            Bank target = banks[1 - running];
            int from = pack.written * BLOCK_SIZE;
            int end = Math.min(from + BLOCK_SIZE, pack.length);
            boolean faulty = fault != 0 && faultBlock == pack.written;
            int flaw = faulty ? fault : 0;
            for (int i = from; i < end; i++) {
                target.octets[i] = (byte) (pack.octets[i] ^ flaw);
            }
            if (faulty) {
                fault = 0;
                return;
            }
            pack.written++;
            if (end == pack.length) {
                completeBank(target);
            }
        }

        private void completeBank(Bank target) {
            for (int i = pack.length; i < BANK_SIZE; i++) {
                target.octets[i] = 0;
            }
            target.edition = pack.edition;
            target.packNumber = pack.number;
            pack.state = READY;
        }
    }

    /** The DIGEST of at most 256 octets; its rows are made once and serve every package. */
    private static final class Digester {
        private static final int CHUNK = 64;
        private static final int WORDS = 8;
        private static final int ROUNDS = 64;
        private static final int BITS_SIZE = 8;
        private static final int LONGEST_MESSAGE = 320;

        private static final int[] SQUARE_ROOTS = {
            0x6a09e667, 0xbb67ae85, 0x3c6ef372, 0xa54ff53a, 0x510e527f, 0x9b05688c, 0x1f83d9ab, 0x5be0cd19
        };

        private static final int[] CUBE_ROOTS = {
            0x428a2f98, 0x71374491, 0xb5c0fbcf, 0xe9b5dba5, 0x3956c25b, 0x59f111f1, 0x923f82a4, 0xab1c5ed5,
            0xd807aa98, 0x12835b01, 0x243185be, 0x550c7dc3, 0x72be5d74, 0x80deb1fe, 0x9bdc06a7, 0xc19bf174,
            0xe49b69c1, 0xefbe4786, 0x0fc19dc6, 0x240ca1cc, 0x2de92c6f, 0x4a7484aa, 0x5cb0a9dc, 0x76f988da,
            0x983e5152, 0xa831c66d, 0xb00327c8, 0xbf597fc7, 0xc6e00bf3, 0xd5a79147, 0x06ca6351, 0x14292967,
            0x27b70a85, 0x2e1b2138, 0x4d2c6dfc, 0x53380d13, 0x650a7354, 0x766a0abb, 0x81c2c92e, 0x92722c85,
            0xa2bfe8a1, 0xa81a664b, 0xc24b8b70, 0xc76c51a3, 0xd192e819, 0xd6990624, 0xf40e3585, 0x106aa070,
            0x19a4c116, 0x1e376c08, 0x2748774c, 0x34b0bcb5, 0x391c0cb3, 0x4ed8aa4a, 0x5b9cca4f, 0x682e6ff3,
            0x748f82ee, 0x78a5636f, 0x84c87814, 0x8cc70208, 0x90befffa, 0xa4506ceb, 0xbef9a3f7, 0xc67178f2
        };

        private final byte[] message;
        private final int[] schedule;
        private final int[] result;

        Digester() {
            message = new byte[LONGEST_MESSAGE];
            schedule = new int[ROUNDS];
            result = new int[WORDS];
        }

        /** i is from 0 to 31. */
        byte resultOctet(int i) {
            return (byte) (result[(i >> 2) & (WORDS - 1)] >>> (24 - 8 * (i & 3)));
        }

        void digestOf(byte[] source, int count) {
            int total = layOut(source, count);
            for (int i = 0; i < WORDS; i++) {
                result[i] = SQUARE_ROOTS[i];
            }
            for (int from = 0; from < total; from += CHUNK) {
                fillSchedule(from);
                mix();
            }
        }

        /** The octets with what comes behind them: how many there are then. */
        private int layOut(byte[] source, int count) {
            int total = (count + BITS_SIZE + CHUNK) / CHUNK * CHUNK;
            for (int i = 0; i < total; i++) {
                message[i] = i < count ? source[i] : 0;
            }
            message[count] = (byte) 128;
            long bits = 8L * count;
            for (int i = 1; i <= BITS_SIZE; i++) {
                message[total - i] = (byte) bits;
                bits >>>= 8;
            }
            return total;
        }

        private void fillSchedule(int from) {
            for (int t = 0; t < 16; t++) {
                schedule[t] = wordAt(from + 4 * t);
            }
            for (int t = 16; t < ROUNDS; t++) {
                schedule[t] = schedule[t - 16] + spread(schedule[t - 15], 7, 18, 3)
                        + schedule[t - 7] + spread(schedule[t - 2], 17, 19, 10);
            }
        }

        private int wordAt(int i) {
            return ((message[i] & 255) << 24) | ((message[i + 1] & 255) << 16)
                    | ((message[i + 2] & 255) << 8) | (message[i + 3] & 255);
        }

        private void mix() {
            int a = result[0];
            int b = result[1];
            int c = result[2];
            int d = result[3];
            int e = result[4];
            int f = result[5];
            int g = result[6];
            int h = result[7];
            for (int t = 0; t < ROUNDS; t++) {
                int x = h + turns(e, 6, 11, 25) + ((e & f) ^ (~e & g)) + CUBE_ROOTS[t] + schedule[t];
                int y = turns(a, 2, 13, 22) + ((a & b) ^ (a & c) ^ (b & c));
                h = g;
                g = f;
                f = e;
                e = d + x;
                d = c;
                c = b;
                b = a;
                a = x + y;
            }
            result[0] += a;
            result[1] += b;
            result[2] += c;
            result[3] += d;
            result[4] += e;
            result[5] += f;
            result[6] += g;
            result[7] += h;
        }

        private static int spread(int x, int p, int q, int r) {
            return turned(x, p) ^ turned(x, q) ^ (x >>> r);
        }

        private static int turns(int x, int p, int q, int r) {
            return turned(x, p) ^ turned(x, q) ^ turned(x, r);
        }

        private static int turned(int x, int n) {
            return (x >>> n) | (x << (32 - n));
        }
    }
}
