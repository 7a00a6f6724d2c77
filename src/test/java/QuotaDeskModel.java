import java.util.ArrayList;
import java.util.HashMap;
import java.util.List;
import java.util.Map;
import java.util.TreeMap;

/**
 * The document told a second time, as near to its words as can be: request by request and unit by unit, with no
 * regard to room or speed. Random runs hold the program against it.
 */
final class QuotaDeskModel {
    private static final class Letter {
        final int sort;
        final int gate;
        final int number;
        final int window;
        final int n;
        final int told;

        Letter(int sort, int gate, int number, int window, int n, int told) {
            this.sort = sort;
            this.gate = gate;
            this.number = number;
            this.window = window;
            this.n = n;
            this.told = told;
        }
    }

    /** All letters ever sent one way, so that number k is at k - 1. */
    private static final class Line {
        final List<Letter> letters = new ArrayList<>();
        int received = 0;
        int taken = 0;

        boolean shut() {
            return letters.size() - received >= 50;
        }
    }

    private static final class Units {
        int share = 0;
        int spent = 0;
        int stored = 0;
    }

    private static final class Gate {
        int error = 0;
        long clock;
        boolean up = true;
        final Map<Integer, Units> windows = new HashMap<>();
        final Line from = new Line();
        final Line to = new Line();
    }

    private static final class Plea {
        long n = 0;
        int told = 0;
    }

    private int budget;
    private int width;
    private int most;
    private int rule;
    private long time;
    private boolean up;
    private List<Gate> gates;
    private List<Letter> pool;
    private Map<Integer, Integer> deskUnits;
    private TreeMap<Integer, TreeMap<Integer, Plea>> waiting;
    private Map<Integer, Integer> used;
    private List<Long> admissions;

    QuotaDeskModel() {
        setup(100, 10, 2, 3);
    }

    void setup(int l, int w, int e, int g) {
        if (l < 1 || l > 1000000 || w < 2 || w > 10000 || e < 0 || (long) e + e >= w || g < 1 || g > 8) {
            throw new IllegalArgumentException();
        }
        budget = l;
        width = w;
        most = e;
        rule = 0;
        time = e;
        up = true;
        gates = new ArrayList<>();
        for (int x = 0; x < g; x++) {
            Gate gate = new Gate();
            gate.clock = time;
            gates.add(gate);
        }
        pool = new ArrayList<>();
        deskUnits = new HashMap<>();
        waiting = new TreeMap<>();
        used = new HashMap<>();
        admissions = new ArrayList<>();
    }

    private int deskWindow() {
        return (int) Math.floorDiv(time, (long) width);
    }

    private int window(Gate gate) {
        return (int) Math.floorDiv(gate.clock, (long) width);
    }

    private static boolean near(long window, long middle) {
        return window >= 0 && Math.abs(window - middle) <= 1;
    }

    private boolean deskKeeps(int window) {
        return near(window, deskWindow());
    }

    private Units units(Gate gate, int window) {
        if (!near(window, window(gate))) {
            return new Units();
        }
        return gate.windows.computeIfAbsent(window, k -> new Units());
    }

    private void timeMoved() {
        for (Gate gate : gates) {
            gate.clock = Math.max(gate.clock, time + gate.error);
            gate.windows.keySet().removeIf(w -> !near(w, window(gate)));
        }
        deskUnits.keySet().removeIf(w -> !deskKeeps(w));
        waiting.keySet().removeIf(w -> !deskKeeps(w));
    }

    private Gate gate(int x) {
        if (x < 0 || x >= gates.size()) {
            throw new IndexOutOfBoundsException();
        }
        return gates.get(x);
    }

    void pass(int ticks) {
        if (ticks < 0 || ticks > 1000000) {
            throw new IllegalArgumentException();
        }
        time += ticks;
        timeMoved();
    }

    void error(int x, int e) {
        Gate gate = gate(x);
        if (e < -most || e > most) {
            throw new IllegalArgumentException();
        }
        gate.error = e;
        timeMoved();
    }

    void rule(int r) {
        if (r < 0 || r > 2) {
            throw new IllegalArgumentException();
        }
        rule = r;
    }

    int admit(int x, int n) {
        Gate gate = gate(x);
        if (n < 1 || n > 1000) {
            throw new IllegalArgumentException();
        }
        if (!gate.up) {
            throw new IllegalStateException();
        }
        int admitted = 0;
        for (int request = 0; request < n; request++) {
            Units mine = units(gate, window(gate));
            if (mine.spent < mine.share) {
                if (mine.spent == mine.stored) {
                    mine.stored += Math.min(16, mine.share - mine.stored);
                }
                mine.spent++;
                admitted++;
                used.merge(window(gate), 1, Integer::sum);
                admissions.add(time);
            }
        }
        return admitted;
    }

    private void put(Letter letter) {
        if (pool.size() < 200) {
            pool.add(letter);
        }
    }

    private void send(Line line, int sort, int x, int window, int n, int told) {
        Letter letter = new Letter(sort, x, line.letters.size() + 1, window, n, told);
        line.letters.add(letter);
        put(letter);
    }

    void plead(int x, int n) {
        Gate gate = gate(x);
        if (n < 1 || n > 1000000) {
            throw new IllegalArgumentException();
        }
        if (!gate.up) {
            throw new IllegalStateException();
        }
        if (gate.from.shut()) {
            throw new UnsupportedOperationException();
        }
        send(gate.from, 0, x, window(gate), n, units(gate, window(gate) - 1).spent);
    }

    void back(int x, int window, int n) {
        Gate gate = gate(x);
        if (!gate.up) {
            throw new IllegalStateException();
        }
        Units mine = units(gate, window);
        if (!near(window, window(gate)) || n < 1 || n > mine.share - mine.stored) {
            throw new IllegalArgumentException();
        }
        if (gate.from.shut()) {
            throw new UnsupportedOperationException();
        }
        mine.share -= n;
        send(gate.from, 1, x, window, n, 0);
    }

    int split() {
        if (!up) {
            throw new IllegalStateException();
        }
        int granted = 0;
        for (Map.Entry<Integer, TreeMap<Integer, Plea>> entry : waiting.entrySet()) {
            granted += splitWindow(entry.getKey(), entry.getValue());
        }
        waiting.clear();
        return granted;
    }

    private int splitWindow(int window, TreeMap<Integer, Plea> pleas) {
        int[] got = new int[gates.size()];
        long[] wants = new long[gates.size()];
        int[] use = new int[gates.size()];
        for (Map.Entry<Integer, Plea> entry : pleas.entrySet()) {
            int x = entry.getKey();
            if (!gates.get(x).to.shut()) {
                wants[x] = entry.getValue().n;
                use[x] = entry.getValue().told;
            }
        }
        int there = there(window);
        int left = rule == 2 ? byUse(there, wants, use, got) : equal(there, wants, got);
        deskUnits.put(window, left);
        for (int x = 0; x < got.length; x++) {
            if (got[x] > 0) {
                send(gates.get(x).to, 2, x, window, got[x], 0);
            }
        }
        return there - left;
    }

    private static int equal(int left, long[] wants, int[] got) {
        while (left > 0) {
            int best = -1;
            for (int x = 0; x < got.length; x++) {
                if (got[x] < wants[x] && (best < 0 || got[x] < got[best])) {
                    best = x;
                }
            }
            if (best < 0) {
                return left;
            }
            got[best]++;
            left--;
        }
        return left;
    }

    private static int byUse(int left, long[] wants, int[] use, int[] got) {
        while (true) {
            List<Integer> wanting = new ArrayList<>();
            long sum = 0;
            for (int x = 0; x < got.length; x++) {
                if (got[x] < wants[x]) {
                    wanting.add(x);
                    sum += use[x];
                }
            }
            if (left == 0 || wanting.isEmpty()) {
                return left;
            }
            if (sum == 0) {
                return equal(left, wants, got);
            }
            long whole = left;
            for (int x : wanting) {
                int part = (int) Math.min(whole * use[x] / sum, wants[x] - got[x]);
                got[x] += part;
                left -= part;
            }
            long total = sum;
            wanting.removeIf(x -> got[x] >= wants[x]);
            // A stable sort leaves gates with the same remainder in their order.
            wanting.sort((a, b) -> Long.compare(whole * use[b] % total, whole * use[a] % total));
            for (int x : wanting) {
                if (left > 0) {
                    got[x]++;
                    left--;
                }
            }
        }
    }

    int deliver(int i) {
        mustHave(i);
        return come(pool.remove(i));
    }

    int deliverAll(int n) {
        if (n < 0 || n > 1000) {
            throw new IllegalArgumentException();
        }
        int came = 0;
        while (came < n && !pool.isEmpty()) {
            come(pool.remove(0));
            came++;
        }
        return came;
    }

    private int come(Letter letter) {
        Gate gate = gates.get(letter.gate);
        boolean toDesk = letter.sort == 0 || letter.sort == 1 || letter.sort == 4;
        if (toDesk ? !up : !gate.up) {
            return 0;
        }
        if (letter.sort >= 3) {
            Line line = toDesk ? gate.to : gate.from;
            line.received = Math.max(line.received, letter.number);
            return 2;
        }
        Line line = toDesk ? gate.from : gate.to;
        boolean taken = letter.number == line.taken + 1;
        if (taken) {
            line.taken = letter.number;
            take(letter, gate);
        }
        put(new Letter(toDesk ? 3 : 4, letter.gate, line.taken, 0, 0, 0));
        return taken ? 1 : 0;
    }

    private void take(Letter letter, Gate gate) {
        int window = letter.window;
        if (letter.sort == 2) {
            units(gate, window).share += letter.n;
        } else if (!deskKeeps(window)) {
            return;
        } else if (letter.sort == 1) {
            deskUnits.put(window, there(window) + letter.n);
        } else if (rule == 0) {
            int granted = Math.min(letter.n, there(window));
            if (granted > 0 && !gate.to.shut()) {
                deskUnits.put(window, there(window) - granted);
                send(gate.to, 2, letter.gate, window, granted, 0);
            }
        } else {
            Plea plea = waiting.computeIfAbsent(window, k -> new TreeMap<>())
                    .computeIfAbsent(letter.gate, k -> new Plea());
            plea.n += letter.n;
            plea.told = letter.told;
        }
    }

    private void mustHave(int i) {
        if (i < 0 || i >= pool.size()) {
            throw new IndexOutOfBoundsException();
        }
    }

    void lose(int i) {
        mustHave(i);
        pool.remove(i);
    }

    void twice(int i) {
        mustHave(i);
        if (pool.size() == 200) {
            throw new IllegalArgumentException();
        }
        pool.add(pool.get(i));
    }

    int resend(int x) {
        Gate gate = gate(x);
        return sendAgain(gate.from) + sendAgain(gate.to);
    }

    private int sendAgain(Line line) {
        List<Letter> open = line.letters.subList(line.received, line.letters.size());
        open.forEach(this::put);
        return open.size();
    }

    int letter(int i, int what) {
        mustHave(i);
        if (what < 0 || what > 5) {
            throw new IllegalArgumentException();
        }
        Letter letter = pool.get(i);
        return new int[] {letter.sort, letter.gate, letter.number, letter.window, letter.n, letter.told}[what];
    }

    void crash(int x) {
        Gate gate = gate(x);
        if (!gate.up) {
            throw new IllegalStateException();
        }
        gate.up = false;
    }

    boolean restart(int x) {
        Gate gate = gate(x);
        boolean was = !gate.up;
        if (was) {
            gate.up = true;
            gate.windows.values().forEach(u -> u.spent = u.stored);
        }
        return was;
    }

    boolean desk(boolean down) {
        boolean changes = up == down;
        up = !down;
        if (down) {
            waiting.clear();
        }
        return changes;
    }

    long about(int x, int what) {
        Gate gate = gate(x);
        if (what < 0 || what > 2) {
            throw new IllegalArgumentException();
        }
        return new long[] {gate.clock, window(gate), gate.up ? 1 : 0}[what];
    }

    int has(int x, int window, int what) {
        Gate gate = gate(x);
        if (what < 0 || what > 2) {
            throw new IllegalArgumentException();
        }
        Units mine = units(gate, window);
        return new int[] {mine.share, mine.spent, mine.stored}[what];
    }

    int there(int window) {
        return deskKeeps(window) ? deskUnits.getOrDefault(window, budget) : 0;
    }

    int used(int window) {
        return window >= 0 && window <= 199 ? used.getOrDefault(window, 0) : 0;
    }

    int busiest(int ticks) {
        if (ticks < 1 || ticks > 1000000) {
            throw new IllegalArgumentException();
        }
        List<Long> latest = admissions.subList(Math.max(0, admissions.size() - 2000), admissions.size());
        int most = 0;
        int end = 0;
        for (int start = 0; start < latest.size(); start++) {
            while (end < latest.size() && latest.get(end) < latest.get(start) + ticks) {
                end++;
            }
            most = Math.max(most, end - start);
        }
        return most;
    }

    int count(int what) {
        switch (what) {
            case 0:
                return pool.size();
            case 1:
                return (int) (time % (1L << 31));
            case 2:
                return gates.size();
            case 3:
                return waiting.values().stream().mapToInt(TreeMap::size).sum();
            default:
                throw new IllegalArgumentException();
        }
    }
}
