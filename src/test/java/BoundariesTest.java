/**
 * Each sentence of the promises 1 to 24 that names a boundary: the value there, and the values next to it on both
 * sides. The boundaries that "The public face" names for many methods at once are in ThrowsTest, those of "Terms" in
 * TermsTest.
 */
public final class BoundariesTest extends Desks {
    private static final int LEAST = Integer.MIN_VALUE;
    private static final int MOST = Integer.MAX_VALUE;

    /** A call with the one number that is tried. */
    private interface Try {
        void with(int n);
    }

    private BoundariesTest() {
    }

    public static void main(String[] args) {
        calls512();
        newObject();
        setup();
        pass();
        error();
        rule();
        admit();
        plead();
        back();
        split();
        deliver();
        deliverAll();
        lose();
        twice();
        resend();
        letter();
        crashAndRestart();
        desk();
        about();
        has();
        there();
        used();
        busiest();
        count();
        Check.end("BoundariesTest");
    }

    /** Each number low .. high is fine (its ends and those next to them are tried), and none outside of them is. */
    private static void dueRange(String what, int low, int high, Try call) {
        for (int n : new int[] {low, Math.min(low + 1, high), Math.max(high - 1, low), high}) {
            try {
                call.with(n);
                Check.due(what + " takes " + n, true, true);
            } catch (RuntimeException thrown) {
                Check.fault(what + " with " + n + " threw " + thrown.getClass().getSimpleName() + ", due is no throw");
            }
        }
        for (int n : new int[] {low - 1, low - 2, high + 1, high + 2, LEAST, LEAST + 1, MOST - 1, MOST}) {
            Check.throwsDue(what + " with " + n, WRONG, () -> call.with(n));
        }
    }

    // "An object is used for at most 512 calls after it has been made": the last of them answers right.
    private static void calls512() {
        QuotaDesk x = new QuotaDesk();
        for (int k = 1; k <= 511; k++) {
            x.pass(1000000);
        }
        Check.due("call 512: 511 times the most ticks", x.count(1), 511000002);
        QuotaDesk y = new QuotaDesk();
        for (int k = 1; k <= 511; k++) {
            y.pass(1000000);
        }
        Check.due("call 512: a clock", y.about(2, 0), 511000002L);
        QuotaDesk z = made(1000000, 10000, 0, 1);
        fetch(z, 0, 1000000);
        for (int k = 4; k <= 509; k += 2) {
            z.admit(0, 1);
            z.pass(1);
        }
        Check.due("call 510: admissions at 253 ticks", z.busiest(1000000), 253);
        Check.due("call 511: of these in 252", z.busiest(252), 252);
        Check.due("call 512: one more", z.admit(0, 1000), 1000);
        manyPleas();
    }

    private static void manyPleas() {
        QuotaDesk x = made(1000000, 10, 0, 1);
        x.rule(1);
        for (int k = 0; k < 254; k++) {
            x.plead(0, 1000000);
            x.deliverAll(2);
        }
        Check.due("call 511: they are one", x.count(3), 1);
        Check.due("call 512: 254,000,000 are wanted", x.split(), 1000000);
    }

    // Promise 1: "As behind setup(100, 10, 2, 3)."
    private static void newObject() {
        String fresh = State.told(new QuotaDesk());
        Check.due("as behind this setup", State.told(made(100, 10, 2, 3)).equals(fresh), true);
        Check.due("another L", State.told(made(101, 10, 2, 3)).equals(fresh), false);
        Check.due("another E", State.told(made(100, 10, 1, 3)).equals(fresh), false);
        Check.due("other gates", State.told(made(100, 10, 2, 4)).equals(fresh), false);
        QuotaDesk x = new QuotaDesk();
        x.pass(7);
        Check.due("W is 10: 9 is in window 0", x.about(0, 1), 0);
        x.pass(1);
        Check.due("W is 10: 10 is in window 1", x.about(0, 1), 1);
        dueRange("E is 2", -2, 2, e -> x.error(0, e));
    }

    // Promise 2: "L is not 1 .. 1000000, W not 2 .. 10000, E below 0 or 2 E not below W, gates not 1 .. 8"
    private static void setup() {
        QuotaDesk x = new QuotaDesk();
        dueRange("L", 1, 1000000, l -> x.setup(l, 10, 2, 3));
        dueRange("W", 2, 10000, w -> x.setup(100, w, 0, 3));
        dueRange("gates", 1, 8, g -> x.setup(100, 10, 2, g));
        for (int w : new int[] {2, 3, 4, 5, 9, 10, 11, 9999, 10000}) {
            dueRange("E with W " + w, 0, (w - 1) / 2, e -> x.setup(100, w, e, 3));
        }
        // Twice these wraps around, to numbers below 0 or to small ones.
        for (int e : new int[] {1 << 30, (1 << 30) + 1, -(1 << 30), -(1 << 30) + 1, MOST, LEAST}) {
            Check.throwsDue("E " + e, WRONG, () -> x.setup(100, 10, e, 3));
        }
        for (int l : new int[] {1, 2, 999999, 1000000}) {
            Check.due("L " + l, made(l, 10, 2, 3).there(0), l);
        }
        for (int g = 1; g <= 8; g++) {
            Check.due("gates " + g, made(5, 10, 2, g).count(2), g);
        }
        allAnew();
    }

    // Promise 2: "All anew: true time E, rule 0."
    private static void allAnew() {
        QuotaDesk x = made(50, 12, 5, 8);
        x.rule(2);
        for (int g = 0; g < 8; g++) {
            x.error(g, 5 - g);
            x.plead(g, 10);
        }
        x.deliverAll(1000);
        x.split();
        x.deliver(0);
        x.admit(0, 3);
        x.pass(9);
        x.plead(1, 5);
        x.plead(2, 5);
        x.deliver(x.count(0) - 1);
        x.crash(3);
        x.desk(true);
        x.setup(50, 12, 5, 8);
        Check.due("as a new one", State.told(x).equals(State.told(made(50, 12, 5, 8))), true);
        x.setup(1, 2, 0, 1);
        Check.due("with fewer gates", State.told(x).equals(State.told(made(1, 2, 0, 1))), true);
        x.setup(1000000, 10000, 4999, 8);
        Check.due("with more gates", State.told(x).equals(State.told(made(1000000, 10000, 4999, 8))), true);
    }

    // Promise 3: "IllegalArgumentException: it is not 0 .. 1000000."
    private static void pass() {
        dueRange("ticks", 0, 1000000, n -> new QuotaDesk().pass(n));
        for (int ticks : new int[] {0, 1, 999999, 1000000}) {
            QuotaDesk x = new QuotaDesk();
            x.pass(ticks);
            Check.due("true time goes on by " + ticks, x.count(1), 2 + ticks);
            Check.due("and a clock", x.about(0, 0), 2 + ticks);
            Check.due("and a window", x.about(0, 1), (2 + ticks) / 10);
        }
    }

    // Promise 4: "IllegalArgumentException: it is not -E .. E."
    private static void error() {
        for (int e : new int[] {0, 1, 4, 4999}) {
            QuotaDesk x = made(5, 10000, e, 2);
            dueRange("an error, E is " + e, -e, e, n -> x.error(1, n));
            Check.due("the clock is ahead by E now", x.about(1, 0), 2L * e);
            Check.due("the other one is not", x.about(0, 0), e);
        }
        QuotaDesk x = made(5, 10, 4, 1);
        x.error(0, -4);
        x.pass(8);
        Check.due("behind by E", x.about(0, 0), 8);
    }

    // Promise 5: "IllegalArgumentException: it is not 0 .. 2."
    private static void rule() {
        dueRange("a rule", 0, 2, r -> new QuotaDesk().rule(r));
        int[] gate1 = {10, 50, 75};
        for (int r = 0; r <= 2; r++) {
            QuotaDesk x = spentBefore(100, 10, 30);
            x.rule(r);
            x.plead(0, 90);
            x.plead(1, 90);
            x.deliverAll(1000);
            x.split();
            x.deliverAll(1000);
            Check.due("at once, equal, by use: " + r, x.has(1, 1, 0), gate1[r]);
        }
    }

    // Promise 6: "how many are admitted", "IllegalArgumentException: n is not 1 .. 1000"
    private static void admit() {
        dueRange("requests", 1, 1000, n -> new QuotaDesk().admit(0, n));
        for (int share : new int[] {0, 1, 2, 998, 999, 1000, 1001}) {
            for (int n : new int[] {1, 2, 999, 1000}) {
                QuotaDesk x = made(5000, 10, 0, 1);
                if (share > 0) {
                    fetch(x, 0, share);
                }
                Check.due("of " + n + " with a share of " + share, x.admit(0, n), Math.min(n, share));
                Check.due("spent", x.has(0, 0, 1), Math.min(n, share));
                Check.due("used", x.used(0), Math.min(n, share));
                Check.due("admissions", x.busiest(1), Math.min(n, share));
            }
        }
    }

    // Promise 7: "A plea of a gate for n units of its window is sent", "n is not 1 .. 1000000", "no more are sent"
    private static void plead() {
        dueRange("units", 1, 1000000, n -> new QuotaDesk().plead(0, n));
        for (int n : new int[] {1, 2, 999999, 1000000}) {
            QuotaDesk x = made(1000000, 10, 0, 1);
            x.plead(0, n);
            dueLetter("it is sent", x, 0, 0, 0, 1, 0, n, 0);
            x.deliver(0);
            dueLetter("and granted", x, 0, 2, 0, 1, 0, n, 0);
        }
        QuotaDesk x = made(100, 10, 0, 1);
        x.pass(9);
        x.plead(0, 1);
        x.pass(1);
        x.plead(0, 1);
        dueLetter("at 9 of window 0", x, 0, 0, 0, 1, 0, 1, 0);
        dueLetter("at 10 of window 1", x, 1, 0, 0, 2, 1, 1, 0);
        for (int sent = 48; sent <= 50; sent++) {
            QuotaDesk y = new QuotaDesk();
            pleadOften(y, 0, sent);
            if (sent < 50) {
                y.plead(0, 1);
                Check.due("one more behind " + sent, y.count(0), sent + 1);
            } else {
                Check.throwsDue("no more behind 50", SHUT, () -> y.plead(0, 1));
            }
        }
        pleaTells();
    }

    // Terms: "a PLEA (window, n, and how many units are spent in the window before)"
    private static void pleaTells() {
        for (int windows = 0; windows <= 3; windows++) {
            QuotaDesk x = made(100, 10, 0, 1);
            fetch(x, 0, 30);
            x.admit(0, 5);
            x.pass(10 * windows);
            x.plead(0, 1);
            dueLetter("spent in window 0", x, 0, 0, 0, 2, windows, 1, windows == 1 ? 5 : 0);
        }
    }

    // Promise 8: "that are not stored as spent", "it does not keep the window, n is below 1, or it has not so many"
    private static void back() {
        for (int spent : new int[] {0, 1, 16, 17, 32, 33, 40}) {
            int free = 40 - Math.min(40, (spent + 15) / 16 * 16);
            backOf(spent, free);
        }
        for (int windows = 0; windows <= 3; windows++) {
            backLater(windows);
        }
        QuotaDesk x = new QuotaDesk();
        fetch(x, 0, 40);
        for (int window : new int[] {-2, -1, 1, 2, 3, 6, LEAST, LEAST + 1, MOST, MOST - 1}) {
            Check.throwsDue("of window " + window, WRONG, () -> x.back(0, window, 1));
        }
        for (int n : new int[] {0, -1, LEAST, MOST}) {
            Check.throwsDue("so many: " + n, WRONG, () -> x.back(0, 0, n));
        }
        Check.throwsDue("a gate without a share", WRONG, () -> x.back(1, 0, 1));
        backByFifty();
    }

    private static QuotaDesk withSpent(int spent) {
        QuotaDesk x = made(100, 10, 0, 1);
        fetch(x, 0, 40);
        if (spent > 0) {
            x.admit(0, spent);
        }
        return x;
    }

    private static void backOf(int spent, int free) {
        for (int n = Math.max(1, free - 1); n <= free + 1; n++) {
            QuotaDesk x = withSpent(spent);
            int units = n;
            if (n > free) {
                Check.throwsDue(n + " with " + free + " to give", WRONG, () -> x.back(0, 0, units));
                Check.due("its share is as it was", x.has(0, 0, 0), 40);
                Check.due("and nothing is sent", x.count(0), 0);
            } else {
                x.back(0, 0, n);
                Check.due(n + " with " + free + " to give: its share", x.has(0, 0, 0), 40 - n);
                dueLetter("a return is sent", x, 0, 1, 0, 2, 0, n, 0);
            }
        }
        QuotaDesk x = withSpent(spent);
        Check.throwsDue("n is 0", WRONG, () -> x.back(0, 0, 0));
    }

    private static void backLater(int windows) {
        QuotaDesk x = withSpent(0);
        x.pass(10 * windows);
        if (windows <= 1) {
            x.back(0, 0, 1);
            dueLetter("it keeps window 0", x, 0, 1, 0, 2, 0, 1, 0);
        } else {
            Check.throwsDue("it does not keep window 0", WRONG, () -> x.back(0, 0, 1));
        }
    }

    // Promise 8: "UnsupportedOperationException: no more are sent."
    private static void backByFifty() {
        for (int sent = 48; sent <= 50; sent++) {
            QuotaDesk x = withSpent(0);
            pleadOften(x, 0, sent);
            if (sent < 50) {
                x.back(0, 0, 40);
                Check.due("one more behind " + sent, x.count(0), sent + 1);
            } else {
                Check.throwsDue("no more behind 50", SHUT, () -> x.back(0, 0, 40));
            }
            Check.due("its share behind " + sent, x.has(0, 0, 0), sent < 50 ? 0 : 40);
        }
    }

    // Promise 9: "The desk splits: how many units it granted. IllegalStateException."
    private static void split() {
        QuotaDesk x = made(10, 10, 0, 2);
        Check.due("none", x.split(), 0);
        waiting(x, 1, 1);
        Check.due("one", x.split(), 1);
        waiting(x, 1, 4, 4);
        Check.due("eight of nine", x.split(), 8);
        waiting(x, 1, 4, 4);
        Check.due("all of one", x.split(), 1);
        waiting(x, 1, 4, 4);
        Check.due("none of none", x.split(), 0);
        x.desk(true);
        Check.throwsDue("down", DOWN, x::split);
        x.desk(false);
        Check.due("up", x.split(), 0);
    }

    private static void dueNoLetter(String what, QuotaDesk x) {
        int size = x.count(0);
        for (int i : new int[] {LEAST, -1, size, size + 1, MOST}) {
            Check.throwsDue(what + ": deliver(" + i + ")", NO_SUCH, () -> x.deliver(i));
            Check.throwsDue(what + ": lose(" + i + ")", NO_SUCH, () -> x.lose(i));
            Check.throwsDue(what + ": twice(" + i + ")", NO_SUCH, () -> x.twice(i));
            Check.throwsDue(what + ": letter(" + i + ")", NO_SUCH, () -> x.letter(i, 0));
        }
    }

    // Promise 10: "Letter i of the pool leaves it", "1 it was taken, 0 it is nothing, 2 it was a receipt that came"
    private static void deliver() {
        QuotaDesk x = new QuotaDesk();
        dueNoLetter("empty", x);
        x.rule(1);
        for (int g = 0; g <= 2; g++) {
            x.plead(g, g + 1);
        }
        dueNoLetter("three letters", x);
        Check.due("the last one", x.deliver(2), 1);
        Check.due("the first one", x.deliver(0), 1);
        dueLetter("the one between them is the first now", x, 0, 0, 1, 1, 0, 2, 0);
        dueLetter("a receipt of the last one", x, 1, 3, 2, 1);
        dueLetter("a receipt of the first one", x, 2, 3, 0, 1);
        Check.due("a receipt comes", x.deliver(2), 2);
        Check.due("a receipt comes", x.deliver(1), 2);
        x.twice(0);
        Check.due("taken", x.deliver(0), 1);
        Check.due("nothing", x.deliver(0), 0);
        x.crash(1);
        Check.due("a receipt that is nothing", x.deliver(0), 0);
        x.restart(1);
        Check.due("a receipt that comes", x.deliver(0), 2);
        dueNoLetter("empty again", x);
        for (int i : new int[] {0, 1, 98, 99, 198, 199}) {
            deliverOfMany(i);
        }
    }

    private static QuotaDesk fullPool() {
        QuotaDesk x = made(100, 10, 2, 8);
        x.rule(1);
        for (int k = 0; k < 200; k++) {
            x.plead(k / 50, 1 + k);
        }
        return x;
    }

    private static void dueGap(String what, QuotaDesk x, int i) {
        if (i > 0) {
            Check.due(what + ": before " + i, x.letter(i - 1, 4), i);
        }
        if (i < 199) {
            Check.due(what + ": behind " + i, x.letter(i, 4), i + 2);
            Check.due(what + ": the last", x.letter(198, 4), 200);
        }
    }

    private static void deliverOfMany(int i) {
        QuotaDesk x = fullPool();
        dueNoLetter("full", x);
        Check.due("letter " + i + " of 200", x.deliver(i), i % 50 == 0 ? 1 : 0);
        dueGap("deliver", x, i);
        dueLetter("its receipt", x, 199, 3, i / 50, i % 50 == 0 ? 1 : 0);
    }

    // Promise 11: "and those that are put there by that, at most n: how many", "n is not 0 .. 1000"
    private static void deliverAll() {
        dueRange("letters", 0, 1000, n -> new QuotaDesk().deliverAll(n));
        Check.due("an empty pool, none", new QuotaDesk().deliverAll(0), 0);
        Check.due("an empty pool, one", new QuotaDesk().deliverAll(1), 0);
        for (int n : new int[] {0, 1, 2, 3, 4, 5, 1000}) {
            QuotaDesk x = new QuotaDesk();
            x.plead(0, 1);
            Check.due("a plea, a grant and two receipts, at most " + n, x.deliverAll(n), Math.min(4, n));
            Check.due("what is left", x.count(0), new int[] {1, 2, 2, 1, 0}[Math.min(4, n)]);
        }
        for (int n : new int[] {0, 1, 4, 5, 6, 1000}) {
            QuotaDesk x = new QuotaDesk();
            x.desk(true);
            pleadOften(x, 0, 5);
            Check.due("five that are nothing, at most " + n, x.deliverAll(n), Math.min(5, n));
            Check.due("what is left", x.count(0), 5 - Math.min(5, n));
        }
        deliverAllOfAFullPool();
    }

    /** 200 pleas, then 200 grants (their receipts have no room), then 200 receipts. */
    private static void deliverAllOfAFullPool() {
        for (int n : new int[] {599, 600, 601, 999, 1000}) {
            QuotaDesk x = made(1000, 10, 0, 8);
            for (int k = 0; k < 200; k++) {
                x.plead(k / 50, 1);
            }
            Check.due("of a full pool at most " + n, x.deliverAll(n), Math.min(600, n));
            Check.due("letters left", x.count(0), n == 599 ? 1 : 0);
            Check.due("all are granted", x.there(0), 800);
            Check.due("pleas are not received, grants are", x.resend(0), 50);
        }
    }

    // Promise 12: "Letter i of the pool is lost."
    private static void lose() {
        for (int i : new int[] {0, 1, 98, 99, 198, 199}) {
            QuotaDesk x = fullPool();
            x.lose(i);
            Check.due("199 are left", x.count(0), 199);
            dueGap("lose", x, i);
            Check.throwsDue("lose(199) of 199", NO_SUCH, () -> x.lose(199));
        }
        QuotaDesk x = new QuotaDesk();
        x.plead(0, 1);
        x.lose(0);
        Check.due("the only one", x.count(0), 0);
        Check.throwsDue("none is left", NO_SUCH, () -> x.lose(0));
        Check.due("it is not received", x.resend(0), 1);
    }

    // Promise 13: "put there once more, at the end", "IllegalArgumentException: there are 200."
    private static void twice() {
        for (int i : new int[] {0, 1, 197, 198}) {
            QuotaDesk x = fullPool();
            x.lose(199);
            x.twice(i);
            Check.due("199: one more, the end of " + i, x.letter(199, 4), i + 1);
            Check.due("the letter itself stays", x.letter(i, 4), i + 1);
            Check.throwsDue("200: no more", WRONG, () -> x.twice(i));
            Check.due("200 stay", x.count(0), 200);
        }
        QuotaDesk x = new QuotaDesk();
        x.plead(0, 7);
        x.twice(0);
        dueLetter("the only one", x, 1, 0, 0, 1, 0, 7, 0);
    }

    // Promise 14: "All letters that were sent from a gate and are not received .. by numbers, then those to it
    // (also when a side is down): how many there are."
    private static void resend() {
        Check.due("none", new QuotaDesk().resend(0), 0);
        for (int n : new int[] {1, 2, 49, 50}) {
            QuotaDesk x = made(1000, 10, 0, 2);
            pleadOften(x, 0, n);
            loseAll(x);
            Check.due("from it", x.resend(0), n);
            dueLetter("the first number", x, 0, 0, 0, 1, 0, 1, 0);
            dueLetter("the last number", x, n - 1, 0, 0, n, 0, 1, 0);
            Check.due("of the other gate", x.resend(1), 0);
            x.deliverAll(n);
            loseAll(x);
            x.crash(0);
            x.desk(true);
            Check.due("both ways, both down", x.resend(0), 2 * n);
            dueLetter("the last one from it", x, n - 1, 0, 0, n, 0, 1, 0);
            dueLetter("the first one to it", x, n, 2, 0, 1, 0, 1, 0);
            dueLetter("the last one to it", x, 2 * n - 1, 2, 0, n, 0, 1, 0);
            Check.due("no others", x.count(0), 2 * n);
        }
        resendAsSent();
    }

    /** What is sent again is as it was sent, far behind number 50 too. */
    private static void resendAsSent() {
        QuotaDesk x = made(100, 10, 0, 1);
        for (int k = 1; k <= 60; k++) {
            fetch(x, 0, 1);
        }
        Check.due("all are received", x.resend(0), 0);
        x.admit(0, 5);
        x.pass(10);
        x.plead(0, 7);
        x.back(0, 0, 3);
        x.deliver(0);
        loseAll(x);
        x.pass(10);
        x.plead(0, 8);
        loseAll(x);
        Check.due("three from it, one to it", x.resend(0), 4);
        dueLetter("a plea of window 1", x, 0, 0, 0, 61, 1, 7, 5);
        dueLetter("a return of window 0", x, 1, 1, 0, 62, 0, 3, 0);
        dueLetter("a plea of window 2", x, 2, 0, 0, 63, 2, 8, 0);
        dueLetter("a grant of window 1", x, 3, 2, 0, 61, 1, 7, 0);
    }

    // Promise 15: "what = 0 its sort .. 5 what a plea tells to be spent (3 to 5: 0 where there is none)"
    private static void letter() {
        QuotaDesk x = made(100, 10, 0, 2);
        fetch(x, 1, 20);
        x.admit(1, 4);
        x.pass(10);
        x.plead(1, 33);
        dueRange("what", 0, 5, what -> x.letter(0, what));
        dueLetter("a plea", x, 0, 0, 1, 2, 1, 33, 4);
        x.deliver(0);
        dueLetter("a grant tells nothing", x, 0, 2, 1, 2, 1, 33, 0);
        dueLetter("a receipt to a gate has none of 3 to 5", x, 1, 3, 1, 2, 0, 0, 0);
        x.deliver(0);
        dueLetter("a receipt to the desk has none of 3 to 5", x, 1, 4, 1, 2, 0, 0, 0);
        x.back(1, 1, 33);
        dueLetter("a return tells nothing", x, 2, 1, 1, 3, 1, 33, 0);
    }

    // Promises 16 and 17: "A gate goes down." "A gate comes up, or nothing if it is up: whether it was down."
    private static void crashAndRestart() {
        for (int gate = 0; gate < 8; gate++) {
            QuotaDesk x = made(100, 10, 0, 8);
            int at = gate;
            Check.due("it is up", x.restart(gate), false);
            x.crash(gate);
            for (int g = 0; g < 8; g++) {
                Check.due("it alone is down", x.about(g, 2), g == gate ? 0 : 1);
            }
            Check.throwsDue("it is down already", DOWN, () -> x.crash(at));
            Check.due("it was down", x.restart(gate), true);
            Check.due("it is up again", x.restart(gate), false);
            x.crash(gate);
            Check.due("down again", x.about(gate, 2), 0);
        }
        QuotaDesk x = withSpent(5);
        x.restart(0);
        dueUnits("up: nothing", x, 0, 40, 5, 16);
        x.crash(0);
        x.restart(0);
        dueUnits("it was down", x, 0, 40, 16, 16);
    }

    // Promise 18: "The desk goes down (true) or up: whether that changes something."
    private static void desk() {
        QuotaDesk x = new QuotaDesk();
        boolean[] calls = {false, false, true, true, false, false, true};
        boolean[] due = {false, false, true, false, true, false, true};
        for (int k = 0; k < calls.length; k++) {
            Check.due("desk, call " + k, x.desk(calls[k]), due[k]);
        }
        Check.due("gates do not mind", x.about(0, 2), 1);
    }

    // Promise 19: "what = 0 its clock, 1 its window, 2 whether it is up (1)", "what is none of these"
    private static void about() {
        QuotaDesk x = new QuotaDesk();
        dueRange("what", 0, 2, what -> x.about(0, what));
        x.pass(27);
        long[] due = {29, 2, 1};
        for (int what = 0; what <= 2; what++) {
            Check.due("about(2, " + what + ")", x.about(2, what), due[what]);
        }
    }

    // Promise 20: "what = 0 its share, 1 how many are spent, 2 how many are stored. (0 if it does not keep it.)"
    private static void has() {
        QuotaDesk x = withSpent(5);
        dueRange("what", 0, 2, what -> x.has(0, 0, what));
        dueRange("what of a window that is not kept", 0, 2, what -> x.has(0, 5, what));
        dueUnits("it keeps it", x, 0, 40, 5, 16);
        for (int window : new int[] {-3, -2, -1, 1, 2, 3, 6, LEAST, LEAST + 1, LEAST + 2, MOST - 2, MOST - 1, MOST}) {
            dueUnits("not of others", x, window, 0, 0, 0);
        }
        x.pass(10);
        fetch(x, 0, 7);
        dueUnits("the window before", x, 0, 40, 5, 16);
        dueUnits("its own", x, 1, 7, 0, 0);
        dueUnits("the one behind", x, 2, 0, 0, 0);
        x.pass(10);
        dueUnits("two before", x, 0, 0, 0, 0);
        dueUnits("the window before", x, 1, 7, 0, 0);
        dueUnits("three behind, in the place of window 0", x, 3, 0, 0, 0);
    }

    // Promise 21: "How many units of a window the desk has; 0 if it does not keep it."
    private static void there() {
        QuotaDesk x = made(100, 10, 0, 1);
        for (int window : new int[] {-3, -2, -1, 2, 3, LEAST, LEAST + 1, LEAST + 2, MOST - 2, MOST - 1, MOST}) {
            Check.due("window 0: there(" + window + ")", x.there(window), 0);
        }
        for (int granted : new int[] {0, 1, 99, 100}) {
            QuotaDesk y = made(100, 10, 0, 1);
            if (granted > 0) {
                fetch(y, 0, granted);
            }
            Check.due("all but " + granted, y.there(0), 100 - granted);
        }
        x.pass(50);
        for (int window = 2; window <= 8; window++) {
            Check.due("window 5: there(" + window + ")", x.there(window), window >= 4 && window <= 6 ? 100 : 0);
        }
    }

    // Promise 22: "(of the windows 0 .. 199; 0 for others)", "by all gates, ever"
    private static void used() {
        int[] counted = {0, 1, 2, 198, 199};
        for (int window : new int[] {0, 1, 2, 198, 199, 200, 201}) {
            QuotaDesk x = made(100, 2, 0, 2);
            x.pass(2 * window);
            fetch(x, 0, 5);
            fetch(x, 1, 5);
            Check.due("admitted", x.admit(0, 4) + x.admit(1, 9), 9);
            for (int k : counted) {
                Check.due("window " + window + ": used(" + k + ")", x.used(k), k == window ? 9 : 0);
            }
            for (int k : new int[] {-2, -1, 200, 201, LEAST, MOST}) {
                Check.due("window " + window + ": used(" + k + ")", x.used(k), 0);
            }
            x.pass(6);
            Check.due("ever", x.used(window), window <= 199 ? 9 : 0);
            x.crash(0);
            x.restart(0);
            Check.due("stored is not used", x.used(window), window <= 199 ? 9 : 0);
        }
    }

    // Promise 23: "ticks are not 1 .. 1000000", "of the latest 2000", "in any row of so many ticks"
    private static void busiest() {
        dueRange("ticks", 1, 1000000, n -> new QuotaDesk().busiest(n));
        Check.due("none", new QuotaDesk().busiest(1000000), 0);
        for (int apart : new int[] {1, 2, 9, 10, 999999, 1000000}) {
            QuotaDesk x = made(100, 10, 0, 1);
            fetch(x, 0, 5);
            x.admit(0, 5);
            x.pass(apart);
            fetch(x, 0, 6);
            x.admit(0, 6);
            dueBusiest(x, apart);
        }
        rowsOfTicks();
        for (int more = -1; more <= 3; more++) {
            latest2000(more);
        }
        thousandATick(new QuotaDesk());
        admissionsAnew();
    }

    /** 5 admissions, and 6 of them so many ticks later. */
    private static void dueBusiest(QuotaDesk x, int apart) {
        if (apart > 1) {
            Check.due("one tick less than they are apart", x.busiest(apart - 1), 6);
        }
        Check.due("as many ticks as they are apart", x.busiest(apart), 6);
        if (apart < 1000000) {
            Check.due("one tick more", x.busiest(apart + 1), 11);
        }
    }

    /** 3, 1, 4, 1 and 5 admissions at ticks 0, 1, 3, 6 and 7. */
    private static void rowsOfTicks() {
        QuotaDesk x = made(100, 10, 0, 1);
        fetch(x, 0, 100);
        int[] at = {0, 1, 3, 6, 7};
        int[] n = {3, 1, 4, 1, 5};
        for (int k = 0; k < at.length; k++) {
            x.pass(at[k] - x.count(1));
            x.admit(0, n[k]);
        }
        int[] due = {0, 5, 6, 6, 8, 10, 10, 11, 14, 14};
        for (int ticks = 1; ticks < due.length; ticks++) {
            Check.due("of ticks in a row: " + ticks, x.busiest(ticks), due[ticks]);
        }
    }

    /** 3 at tick 0, 1996 at tick 5 and 1 + more at tick 100: from the 2001st on the oldest ones do not count. */
    private static void latest2000(int more) {
        QuotaDesk x = made(10000, 10000, 0, 1);
        fetch(x, 0, 10000);
        x.admit(0, 3);
        x.pass(5);
        x.admit(0, 1000);
        x.admit(0, 996);
        x.pass(95);
        if (more >= 0) {
            x.admit(0, 1 + more);
        }
        Check.due("in all with " + more, x.busiest(1000000), Math.min(2000, 2000 + more));
        Check.due("the first two rows with " + more, x.busiest(6), 1999 - Math.max(0, more));
        Check.due("a single tick with " + more, x.busiest(1), 1996);
    }

    /** Whole ticks are forgotten, one after another. */
    private static void thousandATick(QuotaDesk x) {
        x.setup(10000, 10000, 0, 1);
        fetch(x, 0, 10000);
        for (int k = 1; k <= 6; k++) {
            x.admit(0, 1000);
            Check.due("one tick of " + k, x.busiest(1), 1000);
            Check.due("two ticks of " + k, x.busiest(2), Math.min(2000, 1000 * k));
            Check.due("three ticks of " + k, x.busiest(3), Math.min(2000, 1000 * k));
            x.pass(1);
        }
        x.admit(0, 1);
        Check.due("999 and 1000", x.busiest(2), 1999);
        Check.due("999, 1000 and 1", x.busiest(3), 2000);
        x.admit(0, 999);
        Check.due("1000 and 1000", x.busiest(2), 2000);
        Check.due("no others count", x.busiest(1000000), 2000);
    }

    /** What was admitted before a setup counts no more, whether ticks come again or others come. */
    private static void admissionsAnew() {
        QuotaDesk x = new QuotaDesk();
        for (int start : new int[] {0, 0, 1, 2, 2, 0}) {
            x.setup(10000, 10000, 0, 1);
            Check.due("none", x.busiest(1000000), 0);
            fetch(x, 0, 10000);
            x.pass(start);
            x.admit(0, 900);
            Check.due("at the first tick", x.busiest(1), 900);
            x.pass(1);
            x.admit(0, 1000);
            Check.due("at the next one", x.busiest(1), 1000);
            Check.due("both", x.busiest(2), 1900);
            x.pass(1);
            x.admit(0, 100);
            Check.due("at the last one", x.busiest(1), 1000);
            Check.due("the last two", x.busiest(2), 1900);
            Check.due("2000 are all among the latest 2000", x.busiest(3), 2000);
            Check.due("used", x.used(0), 2000);
        }
        for (int tick = 0; tick < 12; tick++) {
            x.admit(0, 100);
            x.pass(1);
        }
        thousandATick(x);
    }

    // Promise 24: "what = 0 letters in the pool, 1 true time (its lowest 31 bits), 2 gates, 3 pleas that wait"
    private static void count() {
        dueRange("what", 0, 3, what -> new QuotaDesk().count(what));
        QuotaDesk x = made(100, 10, 0, 8);
        for (int k = 1; k <= 202; k++) {
            x.plead(k / 50, 1);
            Check.due("letters", x.count(0), Math.min(200, k));
        }
        for (int k = 199; k >= 0; k--) {
            x.lose(0);
            Check.due("letters", x.count(0), k);
        }
        lowest31Bits();
        pleasThatWait();
    }

    /** 31 bits are only filled by more than 2000 calls, where nothing is promised; the words hold there as well. */
    private static void lowest31Bits() {
        QuotaDesk x = made(100, 10000, 0, 1);
        for (int k = 0; k < 2147; k++) {
            x.pass(1000000);
        }
        x.pass(483647);
        Check.due("2^31 - 1", x.count(1), MOST);
        Check.due("its clock", x.about(0, 0), 2147483647L);
        x.pass(1);
        Check.due("2^31", x.count(1), 0);
        Check.due("its clock is whole", x.about(0, 0), 2147483648L);
        x.pass(1);
        Check.due("2^31 + 1", x.count(1), 1);
    }

    /** Gates and windows: from none to 8 gates in three windows. */
    private static void pleasThatWait() {
        QuotaDesk x = made(1000, 10, 4, 8);
        x.rule(1);
        Check.due("none", x.count(3), 0);
        int due = 0;
        for (int window = 0; window <= 2; window++) {
            for (int g = 0; g < 8; g++) {
                Check.due("each gate is in its window", x.about(g, 1), window);
                x.plead(g, 1);
                x.deliverAll(9);
                due++;
                Check.due("one more", x.count(3), due);
            }
            x.pass(window == 0 ? 9 : 3);
            for (int g = 0; g < 8 && window == 1; g++) {
                x.error(g, 4);
            }
        }
        Check.due("true time 19: window 0 is kept", x.count(3), 24);
        x.pass(1);
        Check.due("true time 20: it is dropped", x.count(3), 16);
        Check.due("and the others are granted", x.split(), 16);
        Check.due("none waits then", x.count(3), 0);
    }
}
