import java.util.ArrayDeque;
import java.util.Arrays;
import java.util.Deque;
import java.util.Random;

/** Long random runs on the program and on the model side by side; seeds are fixed, so every run is the same. */
public final class RandomRunsTest {
    private static final int CALLS = 512;
    private static final int SHOWN = 40;
    private static final int THROWN = 1 << 20;

    /** How often each deed is done, in the order of its cases in one() and post(). */
    private static final int[][] MOODS = {
        {1, 12, 6, 6, 20, 25, 10, 8, 10, 12, 3, 3, 3, 2, 3, 2, 0},
        {0, 4, 3, 2, 10, 60, 10, 6, 6, 2, 2, 10, 8, 1, 1, 1, 0},
        {0, 3, 2, 3, 30, 30, 5, 15, 5, 20, 1, 1, 2, 1, 2, 0, 1},
        {2, 20, 10, 4, 20, 20, 4, 8, 20, 6, 6, 6, 6, 4, 6, 4, 0},
        {0, 1, 1, 4, 3, 40, 2, 12, 30, 0, 6, 2, 1, 0, 1, 0, 0},
        {0, 6, 1, 0, 50, 25, 1, 5, 1, 20, 0, 0, 1, 1, 1, 0, 0},
        {0, 2, 1, 1, 20, 40, 6, 3, 60, 8, 2, 2, 2, 1, 2, 1, 0},
        {1, 1, 3, 1, 5, 3, 1, 1, 1, 1, 1, 1, 1, 1, 1, 1, 20},
    };

    private final Random random;
    private final int[] mood;
    private final QuotaDesk desk = new QuotaDesk();
    private final QuotaDeskModel model = new QuotaDeskModel();
    private final Deque<String> trace = new ArrayDeque<>();
    private final String name;
    private boolean sound = true;
    private int calls = 0;
    private int e = 2;
    private int budget = 100;
    private int width = 10;

    private RandomRunsTest(int seed) {
        random = new Random(seed);
        mood = MOODS[Math.floorMod(seed, MOODS.length)];
        name = "seed " + seed;
    }

    public static void main(String[] args) {
        int runs = args.length > 0 ? Integer.parseInt(args[0]) : 400;
        int wrong = 0;
        for (int seed = 0; seed < runs && wrong < 3; seed++) {
            RandomRunsTest test = new RandomRunsTest(seed);
            test.run();
            wrong += test.sound ? 0 : 1;
        }
        Check.end("RandomRunsTest");
    }

    private void run() {
        if (random.nextInt(4) > 0) {
            setup();
        }
        for (int deed = 0; calls < CALLS && sound; deed++) {
            one();
            if (deed % 8 == 0 || random.nextInt(10) == 0) {
                look();
            }
        }
        if (sound) {
            look();
        }
    }

    private long answer(Check.Call call) {
        try {
            return call.answer();
        } catch (RuntimeException thrown) {
            return -THROWN - Math.floorMod(thrown.getClass().getName().hashCode(), THROWN);
        }
    }

    private void same(String call, Check.Call program, Check.Call due) {
        if (!sound) {
            return;
        }
        calls++;
        long got = answer(program);
        long want = answer(due);
        trace.add(call + " => " + want);
        if (trace.size() > SHOWN) {
            trace.remove();
        }
        Check.due(name + ": " + call, got, want);
        if (got != want) {
            sound = false;
            trace.forEach(line -> System.out.println("    " + line));
        }
    }

    private void sameDeed(String call, Check.Deed program, Check.Deed due) {
        same(call, () -> {
            program.happen();
            return 0;
        }, () -> {
            due.happen();
            return 0;
        });
    }

    private int pick() {
        int at = random.nextInt(Arrays.stream(mood).sum());
        int k = 0;
        while (at >= mood[k]) {
            at -= mood[k];
            k++;
        }
        return k;
    }

    /** One of the values from low to high, now and then one just outside of them. */
    private int near(int low, int high) {
        int k = random.nextInt(60);
        return k == 0 ? low - 1 : k == 1 ? high + 1 : low + random.nextInt(high - low + 1);
    }

    private int gate() {
        return near(0, model.count(2) - 1);
    }

    private int place() {
        int size = model.count(0);
        return size == 0 || random.nextInt(3) == 0 ? random.nextInt(3) - random.nextInt(2) : near(0, size - 1);
    }

    private int units() {
        int[] sizes = {1, 3, 9, 20, 60, budget, 2 * budget, 1000000};
        return near(1, Math.min(1000000, sizes[random.nextInt(sizes.length)]));
    }

    private int ticks() {
        int[] sizes = {1, 2, width / 2, width, 2 * width, 5 * width};
        return random.nextInt(100) == 0 ? near(0, 1000000) : near(0, sizes[random.nextInt(sizes.length)]);
    }

    private void setup() {
        int[] budgets = {1, 5, 17, 50, 100, 1000, 5000};
        int l = budgets[random.nextInt(budgets.length)];
        int[] widths = {2, 3, 10, 10, 25, 1000};
        int w = widths[random.nextInt(widths.length)];
        int error = near(0, (w - 1) / 2);
        int gates = near(1, 8);
        sameDeed("setup(" + l + ", " + w + ", " + error + ", " + gates + ")",
                () -> desk.setup(l, w, error, gates), () -> {
                    model.setup(l, w, error, gates);
                    budget = l;
                    width = w;
                    e = error;
                });
    }

    private void one() {
        int kind = pick();
        int g = gate();
        int i = place();
        int n = units();
        switch (kind) {
            case 0:
                setup();
                return;
            case 1:
                int ticks = ticks();
                sameDeed("pass(" + ticks + ")", () -> desk.pass(ticks), () -> model.pass(ticks));
                return;
            case 2:
                int error = near(-e, e);
                sameDeed("error(" + g + ", " + error + ")", () -> desk.error(g, error), () -> model.error(g, error));
                return;
            case 3:
                int rule = near(0, 2);
                sameDeed("rule(" + rule + ")", () -> desk.rule(rule), () -> model.rule(rule));
                return;
            case 4:
                int requests = random.nextInt(3) == 0 ? near(1, 1000) : near(1, 20);
                same("admit(" + g + ", " + requests + ")", () -> desk.admit(g, requests), () -> model.admit(g, requests));
                return;
            case 5:
                sameDeed("plead(" + g + ", " + n + ")", () -> desk.plead(g, n), () -> model.plead(g, n));
                return;
            case 6:
                back(g);
                return;
            case 7:
                same("split()", desk::split, model::split);
                return;
            default:
                post(kind, g, i);
        }
    }

    private void back(int g) {
        int asked = g < 0 || g >= model.count(2) ? 0 : g;
        int window = (int) model.about(asked, 1) + random.nextInt(5) - 2;
        int free = model.has(asked, window, 0) - model.has(asked, window, 2);
        int n = random.nextInt(4) == 0 ? near(1, free + 1) : near(1, Math.max(1, free / 4));
        sameDeed("back(" + g + ", " + window + ", " + n + ")",
                () -> desk.back(g, window, n), () -> model.back(g, window, n));
    }

    private void post(int kind, int g, int i) {
        switch (kind) {
            case 8:
                same("deliver(" + i + ")", () -> desk.deliver(i), () -> model.deliver(i));
                return;
            case 9:
                int n = random.nextInt(3) == 0 ? near(0, 1000) : near(0, 12);
                same("deliverAll(" + n + ")", () -> desk.deliverAll(n), () -> model.deliverAll(n));
                return;
            case 10:
                sameDeed("lose(" + i + ")", () -> desk.lose(i), () -> model.lose(i));
                return;
            case 11:
                sameDeed("twice(" + i + ")", () -> desk.twice(i), () -> model.twice(i));
                return;
            case 12:
                same("resend(" + g + ")", () -> desk.resend(g), () -> model.resend(g));
                return;
            case 13:
                sameDeed("crash(" + g + ")", () -> desk.crash(g), () -> model.crash(g));
                return;
            case 14:
                same("restart(" + g + ")", () -> desk.restart(g) ? 1 : 0, () -> model.restart(g) ? 1 : 0);
                return;
            case 15:
                boolean down = random.nextInt(3) == 0;
                same("desk(" + down + ")", () -> desk.desk(down) ? 1 : 0, () -> model.desk(down) ? 1 : 0);
                return;
            default:
                season();
        }
    }

    /** A whole window: all gates plead, the desk splits, the gates spend, time goes on to the next one. */
    private void season() {
        int rule = 1 + random.nextInt(2);
        sameDeed("rule(" + rule + ")", () -> desk.rule(rule), () -> model.rule(rule));
        for (int gate = 0; gate < model.count(2); gate++) {
            int g = gate;
            int n = 1 + random.nextInt(Math.max(3, random.nextBoolean() ? budget : budget / model.count(2)));
            if (random.nextInt(5) > 0) {
                sameDeed("plead(" + g + ", " + n + ")", () -> desk.plead(g, n), () -> model.plead(g, n));
            }
        }
        same("deliverAll(1000)", () -> desk.deliverAll(1000), () -> model.deliverAll(1000));
        same("split()", desk::split, model::split);
        same("deliverAll(1000)", () -> desk.deliverAll(1000), () -> model.deliverAll(1000));
        for (int gate = 0; gate < model.count(2); gate++) {
            int g = gate;
            int n = 1 + random.nextInt(Math.min(1000, random.nextBoolean() ? budget : 6));
            if (random.nextInt(4) > 0) {
                same("admit(" + g + ", " + n + ")", () -> desk.admit(g, n), () -> model.admit(g, n));
            }
        }
        look();
        sameDeed("pass(" + width + ")", () -> desk.pass(width), () -> model.pass(width));
    }

    /** Everything that can be seen from outside. */
    private void look() {
        int before = calls;
        lookAtAll();
        // A look changes nothing, so that it need not count among the calls that an object is good for.
        calls = before;
    }

    private void lookAtAll() {
        for (int what = -1; what <= 4; what++) {
            int w = what;
            same("count(" + w + ")", () -> desk.count(w), () -> model.count(w));
        }
        int middle = model.count(1) / width;
        for (int window = Math.max(-1, middle - 3); window <= middle + 3; window++) {
            int w = window;
            same("there(" + w + ")", () -> desk.there(w), () -> model.there(w));
            same("used(" + w + ")", () -> desk.used(w), () -> model.used(w));
        }
        for (int g = -1; g <= model.count(2); g++) {
            lookAtGate(g, middle);
        }
        lookAtLetter(-1);
        for (int i = 0; i <= model.count(0); i++) {
            lookAtLetter(i);
        }
        for (int ticks : new int[] {0, 1, 2, 5, width, 3 * width, 20 * width, 1000000, 1000001}) {
            same("busiest(" + ticks + ")", () -> desk.busiest(ticks), () -> model.busiest(ticks));
        }
    }

    private void lookAtGate(int g, int middle) {
        for (int what = -1; what <= 3; what++) {
            int w = what;
            same("about(" + g + ", " + w + ")", () -> desk.about(g, w), () -> model.about(g, w));
            for (int window = middle - 3; window <= middle + 3; window++) {
                int v = window;
                same("has(" + g + ", " + v + ", " + w + ")", () -> desk.has(g, v, w), () -> model.has(g, v, w));
            }
        }
    }

    private void lookAtLetter(int i) {
        for (int what = -1; what <= 6; what++) {
            int w = what;
            same("letter(" + i + ", " + w + ")", () -> desk.letter(i, w), () -> model.letter(i, w));
        }
    }
}
