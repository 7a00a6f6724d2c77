import java.util.Random;
import java.util.Set;

/** Any calls with any arguments, far beyond 512 of them: nothing is ever thrown that the document does not name. */
public final class AnyCallsTest {
    private static final int[] EDGES = {
        Integer.MIN_VALUE, Integer.MIN_VALUE + 1, -1000001, -201, -9, -3, -2, -1, 0, 1, 2, 3, 4, 5, 7, 8, 9, 10, 16, 17, 49, 50, 51,
        99, 100, 199, 200, 201, 1000, 1001, 9999, 10000, 10001, 999999, 1000000, 1000001, 1 << 30, Integer.MAX_VALUE - 1,
        Integer.MAX_VALUE,
    };

    private static final Set<Class<?>> INDEX = Set.of(IndexOutOfBoundsException.class);
    private static final Set<Class<?>> ARGUMENT = Set.of(IllegalArgumentException.class);
    private static final Set<Class<?>> STATE = Set.of(IllegalStateException.class);
    private static final Set<Class<?>> BOTH = Set.of(IndexOutOfBoundsException.class, IllegalArgumentException.class);
    private static final Set<Class<?>> ALL = Set.of(IndexOutOfBoundsException.class, IllegalArgumentException.class,
            IllegalStateException.class, UnsupportedOperationException.class);

    private final Random random;
    private final QuotaDesk x = new QuotaDesk();

    private AnyCallsTest(int seed) {
        random = new Random(seed);
    }

    public static void main(String[] args) {
        for (int seed = 0; seed < 6; seed++) {
            AnyCallsTest test = new AnyCallsTest(seed);
            for (int k = 0; k < 60000; k++) {
                test.one(random(test.random, 0, 23), seed < 3);
            }
        }
        Check.end("AnyCallsTest");
    }

    private static int random(Random random, int low, int high) {
        return low + random.nextInt(high - low + 1);
    }

    private int any() {
        return random.nextInt(3) == 0 ? EDGES[random.nextInt(EDGES.length)] : random(random, 0, 9);
    }

    private int window() {
        int window = (int) x.about(0, 1);
        return random.nextInt(4) == 0 ? any() : window + random(random, -2, 2);
    }

    private void only(String call, Set<Class<?>> named, Check.Deed deed) {
        try {
            deed.happen();
        } catch (RuntimeException thrown) {
            Check.due(call + " may throw " + thrown.getClass(), named.contains(thrown.getClass()), true);
        }
    }

    private void one(int kind, boolean settled) {
        int a = any();
        int b = any();
        int c = window();
        switch (kind) {
            case 0:
                if (!settled) {
                    only("setup", ARGUMENT, () -> x.setup(a, b, any(), random(random, 0, 9)));
                }
                return;
            case 1:
                only("pass", ARGUMENT, () -> x.pass(settled ? 1000000 : a));
                return;
            case 2:
                only("error", BOTH, () -> x.error(a, b));
                return;
            case 3:
                only("rule", ARGUMENT, () -> x.rule(a));
                return;
            case 4:
                only("admit", Set.of(IndexOutOfBoundsException.class, IllegalArgumentException.class,
                        IllegalStateException.class), () -> x.admit(a, b));
                return;
            case 5:
                only("plead", ALL, () -> x.plead(a, random.nextBoolean() ? 1000000 : b));
                return;
            case 6:
                only("back", ALL, () -> x.back(a, c, b));
                return;
            case 7:
                only("split", STATE, x::split);
                return;
            default:
                letters(kind, a, b, c);
        }
    }

    private void letters(int kind, int a, int b, int c) {
        switch (kind) {
            case 8:
                only("deliver", INDEX, () -> x.deliver(a));
                return;
            case 9:
                only("deliverAll", ARGUMENT, () -> x.deliverAll(a));
                return;
            case 10:
                only("lose", INDEX, () -> x.lose(a));
                return;
            case 11:
                only("twice", BOTH, () -> x.twice(a));
                return;
            case 12:
                only("resend", INDEX, () -> x.resend(a));
                return;
            case 13:
                only("letter", BOTH, () -> x.letter(a, b));
                return;
            case 14:
                only("crash", Set.of(IndexOutOfBoundsException.class, IllegalStateException.class), () -> x.crash(a));
                return;
            case 15:
                only("restart", INDEX, () -> x.restart(a));
                return;
            case 16:
                only("desk", Set.of(), () -> x.desk(random.nextInt(8) == 0));
                return;
            default:
                looks(kind, a, b, c);
        }
    }

    private void looks(int kind, int a, int b, int c) {
        switch (kind) {
            case 17:
                only("about", BOTH, () -> x.about(a, b));
                return;
            case 18:
                only("has", BOTH, () -> x.has(a, c, b));
                return;
            case 19:
                only("there", Set.of(), () -> x.there(c));
                return;
            case 20:
                only("used", Set.of(), () -> x.used(c));
                return;
            case 21:
                only("busiest", ARGUMENT, () -> x.busiest(a));
                return;
            default:
                only("count", ARGUMENT, () -> x.count(a));
        }
    }
}
