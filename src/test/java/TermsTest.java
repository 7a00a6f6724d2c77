/**
 * Each sentence of "Terms" that names a boundary has a method of its own, with the sentence before it; those about
 * letters, the pool, the limit of 50 and splits are in classes of their own, which are run from here.
 */
public final class TermsTest extends Desks {
    private TermsTest() {
    }

    public static void main(String[] args) {
        clocks();
        windows();
        units();
        LetterTerms.all();
        PoolTerms.all();
        FiftyTerms.all();
        SplitTerms.all();
        crashes();
        Check.end("TermsTest");
    }

    private static void clocks() {
        trueTimeIsEAtFirst();
        trueTimeOnlyGrows();
        gatesFromZeroOn();
        errorIsZeroAtFirst();
        clockIsTheGreatestSum();
        clockByErrorAlone();
        windowIsRoundedDown(2);
        windowIsRoundedDown(3);
        windowIsRoundedDown(10);
        windowIsRoundedDown(10000);
    }

    // "TRUE TIME is a number, E at first"
    private static void trueTimeIsEAtFirst() {
        int[][] setups = {{2, 0}, {3, 0}, {3, 1}, {10, 0}, {10, 1}, {10, 3}, {10, 4}, {10000, 4998}, {10000, 4999}};
        for (int[] s : setups) {
            QuotaDesk x = made(5, s[0], s[1], 2);
            Check.due("true time at first", x.count(1), s[1]);
            Check.due("a clock at first", x.about(1, 0), s[1]);
            Check.due("a window at first", x.about(1, 1), 0);
        }
    }

    // "that only grows"
    private static void trueTimeOnlyGrows() {
        QuotaDesk x = new QuotaDesk();
        for (int ticks : new int[] {0, 1, 0, 2}) {
            int before = x.count(1);
            x.pass(ticks);
            Check.due("it grows by " + ticks, x.count(1), before + ticks);
        }
        Check.throwsDue("it never goes back", WRONG, () -> x.pass(-1));
    }

    // "There are GATES 0 .. g - 1"
    private static void gatesFromZeroOn() {
        for (int g = 1; g <= 8; g++) {
            QuotaDesk x = made(5, 10, 2, g);
            int last = g - 1;
            Check.due("the first gate of " + g, x.about(0, 2), 1);
            Check.due("the last gate of " + g, x.about(last, 2), 1);
            Check.throwsDue("before the first of " + g, NO_SUCH, () -> x.about(-1, 2));
            Check.throwsDue("behind the last of " + g, NO_SUCH, () -> x.about(last + 1, 2));
        }
    }

    // "a gate has an ERROR, -E .. E (0 at first)"
    private static void errorIsZeroAtFirst() {
        QuotaDesk x = made(5, 10, 4, 8);
        x.pass(3);
        for (int g = 0; g < 8; g++) {
            Check.due("no error at first", x.about(g, 0), 7);
        }
        x.error(0, -4);
        x.error(1, -3);
        x.error(2, -1);
        x.error(3, 0);
        x.error(4, 1);
        x.error(5, 3);
        x.error(6, 4);
        x.pass(10);
        int[] due = {13, 14, 16, 17, 18, 20, 21, 17};
        for (int g = 0; g < 8; g++) {
            Check.due("the clock of gate " + g, x.about(g, 0), due[g]);
        }
    }

    // "a CLOCK: the greatest sum of true time and its error that there was so far"
    private static void clockIsTheGreatestSum() {
        QuotaDesk x = made(5, 10, 4, 1);
        x.error(0, 4);
        Check.due("4 + 4", x.about(0, 0), 8);
        x.error(0, -4);
        Check.due("4 - 4 is less", x.about(0, 0), 8);
        x.pass(7);
        Check.due("11 - 4 is one less", x.about(0, 0), 8);
        x.pass(1);
        Check.due("12 - 4 is as much", x.about(0, 0), 8);
        x.pass(1);
        Check.due("13 - 4 is one more", x.about(0, 0), 9);
    }

    private static void clockByErrorAlone() {
        QuotaDesk x = made(5, 10, 4, 1);
        x.error(0, 2);
        x.error(0, 1);
        Check.due("one less", x.about(0, 0), 6);
        x.error(0, 2);
        Check.due("as much", x.about(0, 0), 6);
        x.error(0, 3);
        Check.due("one more", x.about(0, 0), 7);
    }

    // "Its WINDOW is its clock divided by W, rounded down, that of the desk true time divided by W."
    private static void windowIsRoundedDown(int w) {
        QuotaDesk x = made(5, w, 0, 1);
        x.pass(w - 1);
        dueWindows("W - 1", x, 0);
        x.pass(1);
        dueWindows("W", x, 1);
        x.pass(1);
        dueWindows("W + 1", x, 1);
        x.pass(w - 2);
        dueWindows("2 W - 1", x, 1);
        x.pass(1);
        dueWindows("2 W", x, 2);
        x.pass(w - 1);
        dueWindows("3 W - 1", x, 2);
        x.pass(1);
        dueWindows("3 W", x, 3);
    }

    /** The window of gate 0, and that of the desk by what it keeps. */
    private static void dueWindows(String what, QuotaDesk x, int window) {
        Check.due(what + ": the gate's window", x.about(0, 1), window);
        for (int k = window - 3; k <= window + 3; k++) {
            boolean kept = k >= 0 && Math.abs(k - window) <= 1;
            Check.due(what + ": the desk has of window " + k, x.there(k), kept ? 5 : 0);
        }
    }

    private static void windows() {
        deskKeepsThree();
        for (int gate = 0; gate <= 2; gate++) {
            gateKeepsThree(gate);
        }
        for (int windows = 1; windows <= 5; windows++) {
            droppedByAJump(windows);
        }
        droppedWindowsStayDropped();
        nothingBeforeWindowZero();
    }

    // "The desk KEEPS its window, the one before and the one behind"
    private static void deskKeepsThree() {
        QuotaDesk x = made(100, 10, 0, 1);
        fetch(x, 0, 30);
        x.pass(10);
        fetch(x, 0, 20);
        Check.due("window 1 keeps 0", x.there(0), 70);
        Check.due("window 1 keeps 1", x.there(1), 80);
        Check.due("window 1 keeps 2", x.there(2), 100);
        Check.due("window 1 does not keep 3", x.there(3), 0);
        x.pass(9);
        Check.due("time 19: window 0 is kept", x.there(0), 70);
        Check.due("time 19: window 3 is not", x.there(3), 0);
        x.pass(1);
        Check.due("time 20: window 0 is dropped", x.there(0), 0);
        Check.due("time 20: window 1 is kept", x.there(1), 80);
        Check.due("time 20: window 3 is kept", x.there(3), 100);
    }

    // "a gate likewise": by its own clock, 4 behind, right, and 4 ahead.
    private static void gateKeepsThree(int gate) {
        QuotaDesk x = made(100, 10, 4, 3);
        int error = 4 * gate - 4;
        fetch(x, gate, 30);
        x.admit(gate, 5);
        x.error(gate, error);
        x.pass(19 - error - 4);
        Check.due("clock 19", x.about(gate, 0), 19);
        Check.due("clock 19: share", x.has(gate, 0, 0), 30);
        Check.due("clock 19: spent", x.has(gate, 0, 1), 5);
        Check.due("clock 19: stored", x.has(gate, 0, 2), 16);
        x.pass(1);
        Check.due("clock 20", x.about(gate, 0), 20);
        for (int what = 0; what <= 2; what++) {
            Check.due("clock 20: dropped", x.has(gate, 0, what), 0);
        }
    }

    // "what belongs to others is dropped (and 0)": however far the window goes at once.
    private static void droppedByAJump(int windows) {
        QuotaDesk x = made(100, 10, 0, 1);
        fetch(x, 0, 30);
        x.admit(0, 5);
        x.pass(10 * windows);
        String what = "a jump by " + windows;
        if (windows == 1) {
            dueUnits(what, x, 0, 30, 5, 16);
        }
        for (int k = windows == 1 ? 1 : 0; k <= windows + 2; k++) {
            dueUnits(what, x, k, 0, 0, 0);
        }
        for (int k = 0; k <= windows + 3; k++) {
            int kept = Math.abs(k - windows) <= 1 ? 100 : 0;
            Check.due(what + ": the desk has of " + k, x.there(k), windows == 1 && k == 0 ? 70 : kept);
        }
    }

    private static void droppedWindowsStayDropped() {
        QuotaDesk x = made(100, 10, 4, 1);
        fetch(x, 0, 30);
        x.pass(11);
        dueUnits("clock 15", x, 0, 30, 0, 0);
        x.error(0, 4);
        dueUnits("clock 19", x, 0, 30, 0, 0);
        x.pass(1);
        dueUnits("clock 20", x, 0, 0, 0, 0);
        x.error(0, -4);
        dueUnits("a clock that waits brings nothing again", x, 0, 0, 0, 0);
        Check.due("the desk, at 16, keeps it", x.there(0), 70);
    }

    private static void nothingBeforeWindowZero() {
        QuotaDesk x = new QuotaDesk();
        Check.due("the desk has nothing of window -1", x.there(-1), 0);
        dueUnits("at first", x, -1, 0, 0, 0);
        x.pass(8);
        Check.due("nor in window 1", x.there(-1), 0);
    }

    private static void units() {
        deskHasL();
        admitAsLongAsThereIsAShare();
        for (int share : new int[] {1, 2, 15, 16, 17, 31, 32, 33, 47, 48, 49}) {
            storedInChunks(share);
        }
        storedWhenTheShareGrows();
        storedWhenTheShareShrinks();
        for (int spent : new int[] {0, 1, 15, 16, 17, 31, 32, 33, 40}) {
            comesUpWithWhatIsStored(spent);
        }
    }

    // "THE DESK has, for each window that it keeps, L units at first, less those granted, and those given back."
    private static void deskHasL() {
        for (int l : new int[] {1, 2, 100, 999999, 1000000}) {
            QuotaDesk x = made(l, 10, 0, 1);
            Check.due("L at first", x.there(0), l);
            fetch(x, 0, l);
            Check.due("all granted", x.there(0), 0);
            Check.due("the next window is whole", x.there(1), l);
            x.back(0, 0, 1);
            x.deliverAll(9);
            Check.due("one given back", x.there(0), 1);
            if (l > 1) {
                x.back(0, 0, l - 1);
                x.deliverAll(9);
            }
            Check.due("all given back", x.there(0), l);
        }
    }

    // "TO ADMIT a request one unit of its window is spent, if it is up and fewer are spent than its share."
    private static void admitAsLongAsThereIsAShare() {
        for (int n : new int[] {1, 2, 3, 4, 1000}) {
            QuotaDesk x = new QuotaDesk();
            Check.due("no share", x.admit(0, n), 0);
            fetch(x, 0, 3);
            Check.due("a share of 3, " + n + " come", x.admit(0, n), Math.min(3, n));
            Check.due("so many are spent", x.has(0, 0, 1), Math.min(3, n));
        }
        QuotaDesk x = new QuotaDesk();
        fetch(x, 0, 3);
        x.admit(0, 2);
        Check.due("2 of 3 are spent: one more", x.admit(0, 1), 1);
        Check.due("3 of 3 are spent: no more", x.admit(0, 1), 0);
    }

    // "when as many are spent as are stored, min(16, share less stored) more are stored first"
    private static void storedInChunks(int share) {
        QuotaDesk single = new QuotaDesk();
        fetch(single, 0, share);
        dueUnits("none spent", single, 0, share, 0, 0);
        for (int spent = 1; spent <= share; spent++) {
            int stored = Math.min(share, (spent + 15) / 16 * 16);
            single.admit(0, 1);
            dueUnits("one by one", single, 0, share, spent, stored);
            QuotaDesk atOnce = new QuotaDesk();
            fetch(atOnce, 0, share);
            atOnce.admit(0, spent);
            dueUnits("at once", atOnce, 0, share, spent, stored);
        }
        Check.due("all spent", single.admit(0, 1), 0);
        dueUnits("a refused request stores nothing", single, 0, share, share, share);
    }

    private static void storedWhenTheShareGrows() {
        QuotaDesk x = new QuotaDesk();
        fetch(x, 0, 10);
        x.admit(0, 10);
        fetch(x, 0, 20);
        dueUnits("a greater share stores nothing", x, 0, 30, 10, 10);
        x.admit(0, 1);
        dueUnits("16 more", x, 0, 30, 11, 26);
        x.admit(0, 15);
        dueUnits("as many as stored", x, 0, 30, 26, 26);
        x.admit(0, 1);
        dueUnits("share less stored", x, 0, 30, 27, 30);
    }

    private static void storedWhenTheShareShrinks() {
        for (int left : new int[] {16, 17, 31, 32, 33}) {
            QuotaDesk x = new QuotaDesk();
            fetch(x, 0, 40);
            x.admit(0, 1);
            x.back(0, 0, 40 - left);
            dueUnits("less share, as many stored", x, 0, left, 1, 16);
            Check.due("what is left is admitted", x.admit(0, 1000), left - 1);
            dueUnits("all of it", x, 0, left, left, left);
        }
    }

    // "When it comes up behind a crash, as many count as spent as are stored."
    private static void comesUpWithWhatIsStored(int spent) {
        QuotaDesk x = new QuotaDesk();
        fetch(x, 0, 40);
        if (spent > 0) {
            x.admit(0, spent);
        }
        int stored = Math.min(40, (spent + 15) / 16 * 16);
        x.crash(0);
        dueUnits("down", x, 0, 40, spent, stored);
        x.restart(0);
        dueUnits("up", x, 0, 40, stored, stored);
        Check.due("the rest can be spent", x.admit(0, 1000), 40 - stored);
        Check.due("used is what was admitted", x.used(0), spent + 40 - stored);
    }

    private static void crashes() {
        staysThroughAGatesCrash();
        staysThroughTheDesksCrash();
        waitingPleasDoNot();
    }

    // "What has numbers, shares, what was stored, .. letters that were sent and are not received: all that stays"
    private static void staysThroughAGatesCrash() {
        QuotaDesk x = new QuotaDesk();
        fetch(x, 0, 40);
        x.admit(0, 17);
        x.plead(0, 5);
        x.deliver(0);
        x.back(0, 0, 3);
        loseAll(x);
        x.crash(0);
        dueUnits("down", x, 0, 37, 17, 32);
        x.restart(0);
        dueUnits("up", x, 0, 37, 32, 32);
        Check.due("a plea, a return, a grant", x.resend(0), 3);
        dueLetter("the plea", x, 0, 0, 0, 2, 0, 5, 0);
        dueLetter("the return", x, 1, 1, 0, 3, 0, 3, 0);
        dueLetter("the grant", x, 2, 2, 0, 2, 0, 5, 0);
        Check.due("the grant is the next one", x.deliver(2), 1);
        Check.due("the plea was taken", x.deliver(0), 0);
        Check.due("the return is the next one", x.deliver(0), 1);
        x.plead(0, 1);
        dueLetter("numbers go on", x, x.count(0) - 1, 0, 0, 4, 0, 1, 0);
    }

    // "the desk's units, letters that were sent and are not received: all that stays through a crash"
    private static void staysThroughTheDesksCrash() {
        QuotaDesk x = new QuotaDesk();
        x.plead(0, 30);
        x.deliver(0);
        loseAll(x);
        x.desk(true);
        Check.due("units, down", x.there(0), 70);
        Check.due("letters, down", x.resend(0), 2);
        x.desk(false);
        Check.due("units, up", x.there(0), 70);
        Check.due("the plea was taken", x.deliver(0), 0);
        Check.due("the grant is the first one", x.deliver(0), 1);
        x.deliverAll(9);
        Check.due("all received", x.resend(0), 0);
        x.plead(0, 1);
        x.deliver(0);
        dueLetter("numbers go on", x, 0, 2, 0, 2, 0, 1, 0);
    }

    // "pleas that wait for a split do not"
    private static void waitingPleasDoNot() {
        QuotaDesk x = waiting(new QuotaDesk(), 1, 5, 6, 7);
        x.crash(0);
        x.restart(0);
        Check.due("a gate's crash is not the desk's", x.count(3), 3);
        x.desk(true);
        x.desk(false);
        Check.due("none", x.count(3), 0);
        Check.due("nothing to split", x.split(), 0);
        x.resend(0);
        Check.due("they were received", x.count(0), 0);
        waiting(x, 1, 2);
        Check.due("a new one waits alone", x.count(3), 1);
        Check.due("and is not added to", x.split(), 2);
    }
}
