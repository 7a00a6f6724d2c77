import java.util.Arrays;

/**
 * Gates that admit requests against a window's budget, and the desk that grants them units by letters.
 * All rows are made with the object and used again, so that no later call makes any object.
 */
public final class QuotaDesk {
    public static final int NONE = -1;

    private static final int MOST_GATES = 8;
    private static final int MOST_BUDGET = 1000000;
    private static final int LEAST_WIDTH = 2;
    private static final int MOST_WIDTH = 10000;
    private static final int MOST_TICKS = 1000000;
    private static final int MOST_REQUESTS = 1000;
    private static final int MOST_PLEA = 1000000;
    private static final int MOST_DELIVERIES = 1000;
    private static final int COUNTED_WINDOWS = 200;
    private static final long LOWEST_31_BITS = 0x7fffffffL;

    private static final int KEPT_WINDOWS = 3;
    private static final int RULE_AT_ONCE = 0;
    private static final int RULE_BY_USE = 2;

    private static final int PLEA = 0;
    private static final int RETURN = 1;
    private static final int GRANT = 2;
    private static final int RECEIPT_TO_GATE = 3;
    private static final int RECEIPT_TO_DESK = 4;

    // A letter's columns bear the numbers by which letter() is asked for them.
    private static final int SORT = 0;
    private static final int GATE = 1;
    private static final int NUMBER = 2;
    private static final int WINDOW = 3;
    private static final int UNITS = 4;
    private static final int TOLD = 5;
    private static final int COLUMNS = 6;

    private static final int CAME_TO_NOTHING = 0;
    private static final int WAS_TAKEN = 1;
    private static final int RECEIPT_CAME = 2;

    private final Gate[] gates = new Gate[MOST_GATES];
    private final Office office = new Office();
    private final Pool pool = new Pool();
    private final Sharing sharing = new Sharing();
    private final Admissions admissions = new Admissions();
    private final int[] usedUnits = new int[COUNTED_WINDOWS];
    private final int[] opened = new int[COLUMNS];
    private int gateCount;
    private int width;
    private int mostError;
    private long time;

    public QuotaDesk() {
        for (int g = 0; g < MOST_GATES; g++) {
            gates[g] = new Gate(g);
        }
        begin(100, 10, 2, 3);
    }

    public void setup(int l, int w, int e, int gates) throws IllegalArgumentException {
        if (l < 1 || l > MOST_BUDGET || w < LEAST_WIDTH || w > MOST_WIDTH) {
            throw new IllegalArgumentException();
        }
        if (e < 0 || 2L * e >= w || gates < 1 || gates > MOST_GATES) {
            throw new IllegalArgumentException();
        }
        begin(l, w, e, gates);
    }

    private void begin(int budget, int windowWidth, int error, int number) {
        gateCount = number;
        width = windowWidth;
        mostError = error;
        time = error;
        office.begin(budget);
        pool.begin();
        admissions.begin();
        Arrays.fill(usedUnits, 0);
        for (int g = 0; g < MOST_GATES; g++) {
            gates[g].begin(time);
        }
    }

    public void pass(int ticks) throws IllegalArgumentException {
        if (ticks < 0 || ticks > MOST_TICKS) {
            throw new IllegalArgumentException();
        }
        time += ticks;
        office.turnTo(windowAt(time, width));
        for (int g = 0; g < gateCount; g++) {
            gates[g].look(time, width);
        }
    }

    public void error(int gate, int e) throws IndexOutOfBoundsException, IllegalArgumentException {
        Gate at = gateAt(gate);
        if (e < -mostError || e > mostError) {
            throw new IllegalArgumentException();
        }
        at.error = e;
        at.look(time, width);
    }

    public void rule(int r) throws IllegalArgumentException {
        if (r < RULE_AT_ONCE || r > RULE_BY_USE) {
            throw new IllegalArgumentException();
        }
        office.rule = r;
    }

    public int admit(int gate, int n) throws IndexOutOfBoundsException, IllegalArgumentException, IllegalStateException {
        Gate at = gateAt(gate);
        if (n < 1 || n > MOST_REQUESTS) {
            throw new IllegalArgumentException();
        }
        mustBeUp(at.up);
        int admitted = at.spend(n);
        if (admitted > 0) {
            admissions.add(time, admitted);
            if (isCounted(at.window)) {
                usedUnits[at.window] += admitted;
            }
        }
        return admitted;
    }

    public void plead(int gate, int n)
            throws IndexOutOfBoundsException, IllegalArgumentException, IllegalStateException, UnsupportedOperationException {
        Gate at = gateAt(gate);
        if (n < 1 || n > MOST_PLEA) {
            throw new IllegalArgumentException();
        }
        mustBeUp(at.up);
        mustBeOpen(at.toDesk);
        at.toDesk.send(pool, PLEA, at.window, n, at.spentIn(at.window - 1));
    }

    public void back(int gate, int window, int n)
            throws IndexOutOfBoundsException, IllegalStateException, IllegalArgumentException, UnsupportedOperationException {
        Gate at = gateAt(gate);
        mustBeUp(at.up);
        if (n < 1 || n > at.freeIn(window)) {
            throw new IllegalArgumentException();
        }
        mustBeOpen(at.toDesk);
        at.addShare(window, -n);
        at.toDesk.send(pool, RETURN, window, n, 0);
    }

    public int split() throws IllegalStateException {
        mustBeUp(office.up);
        int granted = 0;
        for (int k = -1; k <= 1; k++) {
            granted += shareOut(office.window + k);
        }
        office.forgetPleas();
        return granted;
    }

    private int shareOut(int window) {
        int slot = slotOf(window, office.window);
        if (slot == NONE) {
            return 0;
        }
        sharing.begin(office.units[slot]);
        for (int g = 0; g < gateCount; g++) {
            // The grants of an earlier window may have shut the way, so it is asked here and not once a split.
            if (!gates[g].toGate.isShut()) {
                sharing.enter(g, office.wanted[slot][g], office.told[slot][g]);
            }
        }
        if (office.rule == RULE_BY_USE) {
            sharing.giveByUse();
        } else {
            sharing.giveEqually();
        }
        int granted = 0;
        for (int g = 0; g < gateCount; g++) {
            granted += grant(gates[g], window, sharing.gets[g]);
        }
        return granted;
    }

    private int grant(Gate to, int window, int n) {
        if (n > 0) {
            office.addUnits(window, -n);
            to.toGate.send(pool, GRANT, window, n, 0);
        }
        return n;
    }

    public int deliver(int i) throws IndexOutOfBoundsException {
        mustHaveLetter(i);
        return bring(i);
    }

    public int deliverAll(int n) throws IllegalArgumentException {
        if (n < 0 || n > MOST_DELIVERIES) {
            throw new IllegalArgumentException();
        }
        int came = 0;
        while (came < n && pool.size > 0) {
            bring(0);
            came++;
        }
        return came;
    }

    private int bring(int i) {
        pool.copyTo(i, opened);
        pool.remove(i);
        Gate gate = gates[opened[GATE]];
        switch (opened[SORT]) {
            case GRANT:
                return comeToGate(gate);
            case RECEIPT_TO_GATE:
                return comeAsReceipt(gate.up, gate.toDesk);
            case RECEIPT_TO_DESK:
                return comeAsReceipt(office.up, gate.toGate);
            default:
                return comeToDesk(gate);
        }
    }

    private int comeAsReceipt(boolean up, Way way) {
        if (!up) {
            return CAME_TO_NOTHING;
        }
        way.markReceived(opened[NUMBER]);
        return RECEIPT_CAME;
    }

    private int comeToGate(Gate gate) {
        if (!gate.up) {
            return CAME_TO_NOTHING;
        }
        boolean taken = gate.toGate.take(opened[NUMBER]);
        if (taken) {
            gate.addShare(opened[WINDOW], opened[UNITS]);
        }
        gate.toGate.sendReceipt(pool, RECEIPT_TO_DESK);
        return taken ? WAS_TAKEN : CAME_TO_NOTHING;
    }

    private int comeToDesk(Gate gate) {
        if (!office.up) {
            return CAME_TO_NOTHING;
        }
        boolean taken = gate.toDesk.take(opened[NUMBER]);
        if (taken && opened[SORT] == PLEA) {
            hearPlea(gate);
        } else if (taken) {
            office.addUnits(opened[WINDOW], opened[UNITS]);
        }
        gate.toDesk.sendReceipt(pool, RECEIPT_TO_GATE);
        return taken ? WAS_TAKEN : CAME_TO_NOTHING;
    }

    private void hearPlea(Gate gate) {
        int window = opened[WINDOW];
        int slot = slotOf(window, office.window);
        if (slot == NONE) {
            return;
        }
        if (office.rule != RULE_AT_ONCE) {
            office.wanted[slot][opened[GATE]] += opened[UNITS];
            office.told[slot][opened[GATE]] = opened[TOLD];
        } else if (!gate.toGate.isShut()) {
            grant(gate, window, Math.min(opened[UNITS], office.units[slot]));
        }
    }

    public void lose(int i) throws IndexOutOfBoundsException {
        mustHaveLetter(i);
        pool.remove(i);
    }

    public void twice(int i) throws IndexOutOfBoundsException, IllegalArgumentException {
        mustHaveLetter(i);
        if (pool.isFull()) {
            throw new IllegalArgumentException();
        }
        pool.copyTo(i, opened);
        pool.put(opened[SORT], opened[GATE], opened[NUMBER], opened[WINDOW], opened[UNITS], opened[TOLD]);
    }

    public int resend(int gate) throws IndexOutOfBoundsException {
        Gate at = gateAt(gate);
        int fromGate = at.toDesk.sendAnew(pool);
        return fromGate + at.toGate.sendAnew(pool);
    }

    public int letter(int i, int what) throws IndexOutOfBoundsException, IllegalArgumentException {
        mustHaveLetter(i);
        if (what < 0 || what >= COLUMNS) {
            throw new IllegalArgumentException();
        }
        return pool.cell(i, what);
    }

    public void crash(int gate) throws IndexOutOfBoundsException, IllegalStateException {
        Gate at = gateAt(gate);
        mustBeUp(at.up);
        at.up = false;
    }

    public boolean restart(int gate) throws IndexOutOfBoundsException {
        Gate at = gateAt(gate);
        if (at.up) {
            return false;
        }
        at.comeUp();
        return true;
    }

    public boolean desk(boolean down) {
        if (office.up != down) {
            return false;
        }
        office.up = !down;
        if (down) {
            office.forgetPleas();
        }
        return true;
    }

    public long about(int gate, int what) throws IndexOutOfBoundsException, IllegalArgumentException {
        Gate at = gateAt(gate);
        switch (what) {
            case 0:
                return at.clock;
            case 1:
                return at.window;
            case 2:
                return at.up ? 1 : 0;
            default:
                throw new IllegalArgumentException();
        }
    }

    public int has(int gate, int window, int what) throws IndexOutOfBoundsException, IllegalArgumentException {
        Gate at = gateAt(gate);
        if (what < 0 || what > 2) {
            throw new IllegalArgumentException();
        }
        int slot = slotOf(window, at.window);
        if (slot == NONE) {
            return 0;
        }
        if (what == 0) {
            return at.share[slot];
        }
        return what == 1 ? at.spent[slot] : at.stored[slot];
    }

    public int there(int window) {
        int slot = slotOf(window, office.window);
        return slot == NONE ? 0 : office.units[slot];
    }

    public int used(int window) {
        return isCounted(window) ? usedUnits[window] : 0;
    }

    public int busiest(int ticks) throws IllegalArgumentException {
        if (ticks < 1 || ticks > MOST_TICKS) {
            throw new IllegalArgumentException();
        }
        return admissions.mostWithin(ticks);
    }

    public int count(int what) throws IllegalArgumentException {
        switch (what) {
            case 0:
                return pool.size;
            case 1:
                return (int) (time & LOWEST_31_BITS);
            case 2:
                return gateCount;
            case 3:
                return office.waitingPleas();
            default:
                throw new IllegalArgumentException();
        }
    }

    private Gate gateAt(int gate) {
        if (gate < 0 || gate >= gateCount) {
            throw new IndexOutOfBoundsException();
        }
        return gates[gate];
    }

    private void mustHaveLetter(int i) {
        if (i < 0 || i >= pool.size) {
            throw new IndexOutOfBoundsException();
        }
    }

    private static void mustBeUp(boolean up) {
        if (!up) {
            throw new IllegalStateException();
        }
    }

    private static void mustBeOpen(Way way) {
        if (way.isShut()) {
            throw new UnsupportedOperationException();
        }
    }

    private static boolean isCounted(int window) {
        return window >= 0 && window < COUNTED_WINDOWS;
    }

    private static int windowAt(long instant, int width) {
        return width < LEAST_WIDTH ? 0 : (int) (instant / width);
    }

    /** Three windows in a row are kept, so that each has a slot of its own by its remainder. */
    private static int slotOf(int window, int current) {
        boolean kept = window >= 0 && window >= current - 1 && window <= current + 1;
        return kept ? window % KEPT_WINDOWS : NONE;
    }

    private static final class Gate {
        private static final int CHUNK = 16;

        private final Way toDesk;
        private final Way toGate;
        private final int[] share = new int[KEPT_WINDOWS];
        private final int[] spent = new int[KEPT_WINDOWS];
        private final int[] stored = new int[KEPT_WINDOWS];
        private int error;
        private long clock;
        private int window;
        private boolean up;

        Gate(int number) {
            toDesk = new Way(number);
            toGate = new Way(number);
        }

        void begin(long time) {
            toDesk.begin();
            toGate.begin();
            Arrays.fill(share, 0);
            Arrays.fill(spent, 0);
            Arrays.fill(stored, 0);
            error = 0;
            clock = time;
            // True time begins at E, and E is below W.
            window = 0;
            up = true;
        }

        void look(long time, int width) {
            clock = Math.max(clock, time + error);
            int next = windowAt(clock, width);
            for (int k = -1; k <= 1; k++) {
                if (next + k > window + 1) {
                    drop(Math.floorMod(next + k, KEPT_WINDOWS));
                }
            }
            window = next;
        }

        private void drop(int slot) {
            share[slot] = 0;
            spent[slot] = 0;
            stored[slot] = 0;
        }

        int spend(int requests) {
            int slot = slotOf(window, window);
            if (slot == NONE) {
                return 0;
            }
            int admitted = Math.min(requests, share[slot] - spent[slot]);
            spent[slot] += admitted;
            int missing = Math.max(0, spent[slot] - stored[slot]);
            int chunks = (missing + CHUNK - 1) / CHUNK;
            stored[slot] = Math.min(share[slot], stored[slot] + chunks * CHUNK);
            return admitted;
        }

        int spentIn(int asked) {
            int slot = slotOf(asked, window);
            return slot == NONE ? 0 : spent[slot];
        }

        int freeIn(int asked) {
            int slot = slotOf(asked, window);
            return slot == NONE ? 0 : share[slot] - stored[slot];
        }

        void addShare(int asked, int n) {
            int slot = slotOf(asked, window);
            if (slot != NONE) {
                share[slot] += n;
            }
        }

        void comeUp() {
            up = true;
            System.arraycopy(stored, 0, spent, 0, KEPT_WINDOWS);
        }
    }

    /** The desk itself, its windows' units and the pleas that wait there. */
    private static final class Office {
        private final int[] units = new int[KEPT_WINDOWS];
        private final int[][] wanted = new int[KEPT_WINDOWS][MOST_GATES];
        private final int[][] told = new int[KEPT_WINDOWS][MOST_GATES];
        private int budget;
        private int window;
        private int rule;
        private boolean up;

        void begin(int newBudget) {
            budget = newBudget;
            window = 0;
            rule = RULE_AT_ONCE;
            up = true;
            Arrays.fill(units, budget);
            forgetPleas();
        }

        void turnTo(int next) {
            for (int k = -1; k <= 1; k++) {
                if (next + k > window + 1) {
                    renew(Math.floorMod(next + k, KEPT_WINDOWS));
                }
            }
            window = next;
        }

        private void renew(int slot) {
            units[slot] = budget;
            Arrays.fill(wanted[slot], 0);
        }

        void addUnits(int asked, int n) {
            int slot = slotOf(asked, window);
            if (slot != NONE) {
                units[slot] += n;
            }
        }

        void forgetPleas() {
            for (int slot = 0; slot < KEPT_WINDOWS; slot++) {
                Arrays.fill(wanted[slot], 0);
            }
        }

        int waitingPleas() {
            int waiting = 0;
            for (int slot = 0; slot < KEPT_WINDOWS; slot++) {
                for (int g = 0; g < MOST_GATES; g++) {
                    waiting += wanted[slot][g] > 0 ? 1 : 0;
                }
            }
            return waiting;
        }
    }

    /** A ring: taking the first letter, as most deliveries do, moves no other one. */
    private static final class Pool {
        private static final int MOST_LETTERS = 200;

        private final int[] cells = new int[MOST_LETTERS * COLUMNS];
        private int first;
        private int size;

        void begin() {
            first = 0;
            size = 0;
        }

        boolean isFull() {
            return size >= MOST_LETTERS;
        }

        private int start(int i) {
            return (first + i) % MOST_LETTERS * COLUMNS;
        }

        int cell(int i, int column) {
            return cells[start(i) + column];
        }

        void copyTo(int i, int[] row) {
            System.arraycopy(cells, start(i), row, 0, COLUMNS);
        }

        void put(int sort, int gate, int number, int window, int units, int told) {
            if (size >= MOST_LETTERS) {
                return;
            }
            int at = (first + size) % MOST_LETTERS * COLUMNS;
            cells[at + SORT] = sort;
            cells[at + GATE] = gate;
            cells[at + NUMBER] = number;
            cells[at + WINDOW] = window;
            cells[at + UNITS] = units;
            cells[at + TOLD] = told;
            size++;
        }

        void remove(int i) {
            if (i == 0) {
                first = (first + 1) % MOST_LETTERS;
            } else {
                for (int k = i; k < size - 1; k++) {
                    System.arraycopy(cells, start(k + 1), cells, start(k), COLUMNS);
                }
            }
            size--;
        }
    }

    /** One way between a gate and the desk: its numbers on both ends, and what is not received of it. */
    private static final class Way {
        private static final int MOST_UNRECEIVED = 50;

        private final int gate;
        private final int[] sorts = new int[MOST_UNRECEIVED];
        private final int[] windows = new int[MOST_UNRECEIVED];
        private final int[] units = new int[MOST_UNRECEIVED];
        private final int[] told = new int[MOST_UNRECEIVED];
        private int sent;
        private int received;
        private int taken;

        Way(int number) {
            gate = number;
        }

        void begin() {
            sent = 0;
            received = 0;
            taken = 0;
        }

        boolean isShut() {
            return sent - received >= MOST_UNRECEIVED;
        }

        void send(Pool pool, int sort, int window, int n, int spent) {
            sent++;
            int row = Math.floorMod(sent, MOST_UNRECEIVED);
            sorts[row] = sort;
            windows[row] = window;
            units[row] = n;
            told[row] = spent;
            pool.put(sort, gate, sent, window, n, spent);
        }

        int sendAnew(Pool pool) {
            int unreceived = sent - received;
            for (int k = 1; k <= unreceived; k++) {
                int row = Math.floorMod(received + k, MOST_UNRECEIVED);
                pool.put(sorts[row], gate, received + k, windows[row], units[row], told[row]);
            }
            return unreceived;
        }

        boolean take(int number) {
            if (number != taken + 1) {
                return false;
            }
            taken = number;
            return true;
        }

        void sendReceipt(Pool pool, int sort) {
            pool.put(sort, gate, taken, 0, 0, 0);
        }

        void markReceived(int number) {
            // A late receipt tells less than is known already.
            received = Math.max(received, number);
        }
    }

    /** How the units of one window are shared out among the gates that want some. */
    private static final class Sharing {
        // A round satisfies a gate, or leaves fewer units than gates and gives one of these: some twenty are the most.
        private static final int MOST_ROUNDS = 100;

        private final int[] wants = new int[MOST_GATES];
        private final int[] uses = new int[MOST_GATES];
        private final int[] gets = new int[MOST_GATES];
        private final long[] remainders = new long[MOST_GATES];
        private int left;

        void begin(int units) {
            left = units;
            Arrays.fill(wants, 0);
            Arrays.fill(uses, 0);
            Arrays.fill(gets, 0);
        }

        void enter(int gate, int want, int use) {
            wants[gate] = want;
            uses[gate] = use;
        }

        private boolean wantsMore(int gate) {
            return gets[gate] < wants[gate];
        }

        private int wantingGates() {
            int wanting = 0;
            for (int g = 0; g < MOST_GATES; g++) {
                wanting += wantsMore(g) ? 1 : 0;
            }
            return wanting;
        }

        private void give(int gate, int n) {
            gets[gate] += n;
            left -= n;
        }

        /**
         * Gives whole layers instead of unit after unit. That is the same because all gates that want more have
         * equally many when it begins: none at first, and behind rounds by use one of each round, as none of them used any.
         */
        void giveEqually() {
            int wanting = wantingGates();
            for (int round = 0; round < MOST_ROUNDS && left > 0 && wanting > 0; round++) {
                if (left < wanting) {
                    giveLayer(1);
                } else {
                    giveLayer(Math.min(left / wanting, leastWish()));
                }
                wanting = wantingGates();
            }
        }

        private int leastWish() {
            int least = left;
            for (int g = 0; g < MOST_GATES; g++) {
                if (wantsMore(g)) {
                    least = Math.min(least, wants[g] - gets[g]);
                }
            }
            return least;
        }

        private void giveLayer(int n) {
            for (int g = 0; g < MOST_GATES && left >= n; g++) {
                if (wantsMore(g)) {
                    give(g, n);
                }
            }
        }

        void giveByUse() {
            for (int round = 0; round < MOST_ROUNDS && left > 0 && wantingGates() > 0; round++) {
                long sum = useOfWanting();
                if (sum <= 0) {
                    giveEqually();
                    return;
                }
                giveParts(sum);
                giveRemainders();
            }
        }

        private long useOfWanting() {
            long sum = 0;
            for (int g = 0; g < MOST_GATES; g++) {
                sum += wantsMore(g) ? uses[g] : 0;
            }
            return sum;
        }

        private void giveParts(long sum) {
            long whole = left;
            for (int g = 0; g < MOST_GATES; g++) {
                if (wantsMore(g)) {
                    long part = whole * uses[g];
                    remainders[g] = part % sum;
                    give(g, (int) Math.min(part / sum, wants[g] - gets[g]));
                }
            }
        }

        private void giveRemainders() {
            for (int turn = 0; turn < MOST_GATES && left > 0; turn++) {
                int gate = greatestRemainder();
                if (gate == NONE) {
                    return;
                }
                give(gate, 1);
                remainders[gate] = NONE;
            }
        }

        private int greatestRemainder() {
            int best = NONE;
            long greatest = NONE;
            for (int g = 0; g < MOST_GATES; g++) {
                if (wantsMore(g) && remainders[g] > greatest) {
                    best = g;
                    greatest = remainders[g];
                }
            }
            return best;
        }
    }

    /** The latest admissions, those of one tick together; a call adds one row at most, and 512 calls are promised. */
    private static final class Admissions {
        private static final int MOST_ROWS = 512;
        private static final int MOST_ADMISSIONS = 2000;

        private final long[] times = new long[MOST_ROWS];
        private final int[] counts = new int[MOST_ROWS];
        private int first;
        private int size;
        private int total;

        void begin() {
            first = 0;
            size = 0;
            total = 0;
        }

        private int row(int i) {
            return (first + i) % MOST_ROWS;
        }

        void add(long time, int n) {
            if (size == 0 || times[row(size - 1)] != time) {
                openRow(time);
            }
            counts[row(size - 1)] += n;
            total += n;
            for (int k = 0; k < MOST_ROWS && total > MOST_ADMISSIONS; k++) {
                forgetOldest(total - MOST_ADMISSIONS);
            }
        }

        private void openRow(long time) {
            if (size >= MOST_ROWS) {
                forgetOldest(counts[first]);
            }
            size++;
            times[row(size - 1)] = time;
            counts[row(size - 1)] = 0;
        }

        private void forgetOldest(int n) {
            int gone = Math.min(n, counts[first]);
            counts[first] -= gone;
            total -= gone;
            if (counts[first] == 0) {
                first = row(1);
                size--;
            }
        }

        int mostWithin(int ticks) {
            int most = 0;
            int sum = 0;
            int start = 0;
            for (int end = 0; end < size; end++) {
                sum += counts[row(end)];
                while (start < end && times[row(end)] - times[row(start)] >= ticks) {
                    sum -= counts[row(start)];
                    start++;
                }
                most = Math.max(most, sum);
            }
            return most;
        }
    }
}
