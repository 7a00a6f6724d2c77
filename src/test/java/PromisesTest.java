/** A method for each promise of the document: ordinary calls, the edges that it names, and wrong inputs. */
public final class PromisesTest extends Desks {
    private PromisesTest() {
    }

    public static void main(String[] args) {
        newObject();
        setup();
        pass();
        error();
        rule();
        admit();
        admitStoresInChunks();
        plead();
        pleadAtOnce();
        back();
        splitEqually();
        splitByUse();
        splitOfSeveralWindows();
        splitForgets();
        deliver();
        deliverAcrossWindows();
        deliverAll();
        lose();
        twice();
        resend();
        letter();
        fullPool();
        crash();
        restart();
        desk();
        about();
        has();
        there();
        used();
        busiest();
        count();
        Check.end("PromisesTest");
    }

    private static void dueFresh(String what, QuotaDesk x, int l, int e, int gates) {
        Check.due(what + ": letters", x.count(0), 0);
        Check.due(what + ": true time", x.count(1), e);
        Check.due(what + ": gates", x.count(2), gates);
        Check.due(what + ": pleas", x.count(3), 0);
        Check.due(what + ": busiest", x.busiest(1000000), 0);
        Check.due(what + ": desk is up", x.desk(false), false);
        for (int window = -1; window <= 2; window++) {
            Check.due(what + ": there(" + window + ")", x.there(window), window == 0 || window == 1 ? l : 0);
            Check.due(what + ": used(" + window + ")", x.used(window), 0);
        }
        for (int gate = 0; gate < gates; gate++) {
            Check.due(what + ": clock", x.about(gate, 0), e);
            Check.due(what + ": window", x.about(gate, 1), 0);
            Check.due(what + ": up", x.about(gate, 2), 1);
            Check.due(what + ": unreceived", x.resend(gate), 0);
            for (int k = 0; k < 9; k++) {
                Check.due(what + ": has", x.has(gate, k / 3 - 1, k % 3), 0);
            }
        }
        Check.throwsDue(what + ": no more gates", NO_SUCH, () -> x.about(gates, 0));
    }

    // Promise 1
    private static void newObject() {
        QuotaDesk x = new QuotaDesk();
        dueFresh("new", x, 100, 2, 3);
        Check.due("NONE", QuotaDesk.NONE, -1);
        x.pass(7);
        Check.due("new: W is 10, still window 0", x.about(0, 1), 0);
        x.pass(1);
        Check.due("new: W is 10, window 1", x.about(0, 1), 1);
        x.error(0, 2);
        x.error(0, -2);
        Check.throwsDue("new: E is 2", WRONG, () -> x.error(0, 3));
        x.plead(0, 5);
        Check.due("new: rule 0", x.deliver(0), 1);
        Check.due("new: granted at once", x.there(1), 95);
        Check.due("another object is apart", new QuotaDesk().there(0), 100);
    }

    // Promise 2
    private static void setup() {
        QuotaDesk x = new QuotaDesk();
        int[][] wrong = {
            {0, 10, 2, 3}, {-1, 10, 2, 3}, {1000001, 10, 2, 3}, {Integer.MAX_VALUE, 10, 2, 3},
            {100, 1, 0, 3}, {100, 0, 0, 3}, {100, -4, 0, 3}, {100, 10001, 2, 3},
            {100, 10, -1, 3}, {100, 10, 5, 3}, {100, 9, 5, 3}, {100, 10, Integer.MAX_VALUE, 3},
            {100, 10, 1 << 30, 3}, {100, 10, Integer.MIN_VALUE, 3},
            {100, 10, 2, 0}, {100, 10, 2, -1}, {100, 10, 2, 9},
        };
        fetch(x, 1, 30);
        for (int[] w : wrong) {
            Check.throwsDue("setup", WRONG, () -> x.setup(w[0], w[1], w[2], w[3]));
            Check.due("a wrong setup changes nothing", x.has(1, 0, 0), 30);
        }
        dueFresh("least", made(1, 2, 0, 1), 1, 0, 1);
        dueFresh("most", made(1000000, 10000, 4999, 8), 1000000, 4999, 8);
        dueFresh("odd W", made(7, 9, 4, 2), 7, 4, 2);
        x.rule(1);
        x.plead(0, 9);
        x.plead(2, 9);
        x.deliver(0);
        x.admit(1, 20);
        x.error(1, 2);
        x.crash(1);
        x.pass(40);
        x.desk(true);
        x.setup(60, 20, 3, 3);
        dueFresh("anew", x, 60, 3, 3);
        x.plead(0, 4);
        dueLetter("numbers begin anew", x, 0, 0, 0, 1, 0, 4, 0);
        x.deliver(0);
        Check.due("rule 0 anew", x.there(0), 56);
        x.pass(1);
        Check.due("errors are 0 anew", x.about(1, 0), 4);
        setupInTheMidst();
    }

    private static void setupInTheMidst() {
        QuotaDesk x = new QuotaDesk();
        fetch(x, 0, 40);
        x.admit(0, 17);
        x.plead(0, 5);
        x.deliver(0);
        x.setup(100, 10, 2, 2);
        dueFresh("gate 0 had units and letters", x, 100, 2, 2);
        x.setup(100, 2, 0, 4);
        dueFresh("more gates than ever", x, 100, 0, 4);
        x.pass(1);
        Check.due("W is 2: window 0", x.about(3, 1), 0);
        x.pass(1);
        Check.due("W is 2: window 1", x.about(3, 1), 1);
        fetch(x, 3, 7);
        Check.due("a gate that was not there before", x.has(3, 1, 0), 7);
    }

    // Promise 3
    private static void pass() {
        QuotaDesk x = new QuotaDesk();
        Check.throwsDue("pass(-1)", WRONG, () -> x.pass(-1));
        Check.throwsDue("pass(1000001)", WRONG, () -> x.pass(1000001));
        Check.throwsDue("pass(least)", WRONG, () -> x.pass(Integer.MIN_VALUE));
        Check.due("nothing passed", x.count(1), 2);
        x.pass(0);
        Check.due("pass(0)", x.count(1), 2);
        fetch(x, 0, 10);
        x.pass(17);
        Check.due("window 1: the one before is kept", x.has(0, 0, 0), 10);
        Check.due("window 1: by the desk too", x.there(0), 90);
        x.pass(1);
        Check.due("window 2: window 0 is dropped", x.has(0, 0, 0), 0);
        Check.due("window 2: by the desk too", x.there(0), 0);
        Check.due("window 2: the one behind is there", x.there(3), 100);
        x.pass(1000000);
        Check.due("pass(1000000)", x.count(1), 1000020);
        Check.due("its window", x.about(0, 1), 100002);
        Check.due("a jump: the one before is whole", x.there(100001), 100);
        for (int k = 0; k < 500; k++) {
            x.pass(1000000);
        }
        Check.due("500 times more", x.count(1), 501000020);
        Check.due("500 times more, a clock", x.about(2, 0), 501000020);
    }

    // Promise 4
    private static void error() {
        QuotaDesk x = made(50, 10, 4, 2);
        Check.throwsDue("error(2, 0)", NO_SUCH, () -> x.error(2, 0));
        Check.throwsDue("error(-1, 9)", NO_SUCH, () -> x.error(-1, 9));
        Check.throwsDue("error(0, 5)", WRONG, () -> x.error(0, 5));
        Check.throwsDue("error(0, -5)", WRONG, () -> x.error(0, -5));
        Check.due("nothing changed", x.about(0, 0), 4);
        x.error(0, 4);
        Check.due("ahead at once", x.about(0, 0), 8);
        Check.due("the other one is not", x.about(1, 0), 4);
        x.error(0, -4);
        Check.due("a clock never goes back", x.about(0, 0), 8);
        x.pass(8);
        Check.due("and waits for true time", x.about(0, 0), 8);
        x.pass(1);
        Check.due("then goes on", x.about(0, 0), 9);
        x.error(1, 4);
        Check.due("an error moves a window on", x.about(1, 1), 1);
        x.pass(4);
        x.error(1, -4);
        Check.due("a window stays", x.about(1, 1), 2);
        x.pass(4);
        Check.due("a window stays with its clock", x.about(1, 0), 21);
        x.crash(0);
        x.pass(3);
        Check.due("a clock goes on when its gate is down", x.about(0, 0), 20);
        x.error(0, 4);
        Check.due("an error changes when its gate is down", x.about(0, 0), 28);
    }

    // Promise 5
    private static void rule() {
        QuotaDesk x = new QuotaDesk();
        for (int r : new int[] {-1, 3, Integer.MAX_VALUE, Integer.MIN_VALUE}) {
            Check.throwsDue("rule(" + r + ")", WRONG, () -> x.rule(r));
        }
        x.plead(0, 5);
        x.rule(1);
        Check.due("a plea sent before", x.deliver(0), 1);
        Check.due("waits by the rule when it is taken", x.count(3), 1);
        x.rule(2);
        x.plead(1, 5);
        x.deliver(1);
        Check.due("rule 2: it waits", x.count(3), 2);
        x.rule(0);
        x.plead(0, 7);
        x.deliver(2);
        Check.due("rule 0: granted at once", x.there(0), 93);
        Check.due("what waited waits on", x.count(3), 2);
        Check.due("a split by rule 0 is an equal one", x.split(), 10);
        Check.due("and all is granted", x.there(0), 83);
    }

    // Promise 6
    private static void admit() {
        QuotaDesk x = new QuotaDesk();
        Check.throwsDue("admit(3, 1)", NO_SUCH, () -> x.admit(3, 1));
        Check.throwsDue("admit(-1, 0)", NO_SUCH, () -> x.admit(-1, 0));
        Check.throwsDue("admit(0, 0)", WRONG, () -> x.admit(0, 0));
        Check.throwsDue("admit(0, 1001)", WRONG, () -> x.admit(0, 1001));
        Check.due("no share", x.admit(0, 1000), 0);
        fetch(x, 0, 10);
        Check.due("some", x.admit(0, 7), 7);
        Check.due("what is left", x.admit(0, 7), 3);
        Check.due("nothing is left", x.admit(0, 1), 0);
        fetch(x, 0, 5);
        Check.due("a share grows", x.admit(0, 1000), 5);
        x.crash(0);
        Check.throwsDue("down", DOWN, () -> x.admit(0, 1));
        Check.throwsDue("down, and a wrong n", WRONG, () -> x.admit(0, 0));
        fetch(x, 1, 20);
        x.pass(8);
        Check.due("only units of its own window", x.admit(1, 1), 0);
        QuotaDesk late = made(50, 10, 4, 2);
        late.error(0, -4);
        fetch(late, 0, 9);
        late.pass(7);
        Check.due("by the gate's window, not the desk's", late.admit(0, 4), 4);
        Check.due("and counted there", late.used(0), 4);
        QuotaDesk wide = made(1000000, 10, 2, 1);
        fetch(wide, 0, 5000);
        Check.due("a thousand", wide.admit(0, 1000), 1000);
    }

    private static void dueHas(String what, QuotaDesk x, int share, int spent, int stored) {
        dueUnits(what, x, 0, share, spent, stored);
    }

    private static void admitStoresInChunks() {
        QuotaDesk x = new QuotaDesk();
        fetch(x, 0, 40);
        x.admit(0, 1);
        dueHas("the first", x, 40, 1, 16);
        x.admit(0, 15);
        dueHas("a whole chunk", x, 40, 16, 16);
        x.admit(0, 1);
        dueHas("one more", x, 40, 17, 32);
        x.admit(0, 16);
        dueHas("the last chunk is short", x, 40, 33, 40);
        fetch(x, 0, 20);
        dueHas("a greater share", x, 60, 33, 40);
        x.admit(0, 7);
        dueHas("as many as stored", x, 60, 40, 40);
        x.admit(0, 1);
        dueHas("a chunk from there", x, 60, 41, 56);
        x.admit(0, 100);
        dueHas("all", x, 60, 60, 60);
        QuotaDesk y = new QuotaDesk();
        fetch(y, 0, 100);
        y.admit(0, 33);
        dueHas("several chunks in one call", y, 100, 33, 48);
    }

    // Promise 7
    private static void plead() {
        QuotaDesk x = new QuotaDesk();
        Check.throwsDue("plead(3, 0)", NO_SUCH, () -> x.plead(3, 0));
        Check.throwsDue("plead(-1, 1)", NO_SUCH, () -> x.plead(-1, 1));
        Check.throwsDue("plead(0, 0)", WRONG, () -> x.plead(0, 0));
        Check.throwsDue("plead(0, 1000001)", WRONG, () -> x.plead(0, 1000001));
        Check.due("nothing was sent", x.count(0), 0);
        fetch(x, 0, 30);
        x.admit(0, 5);
        x.plead(0, 1000000);
        dueLetter("nothing is told of its own window", x, 0, 0, 0, 2, 0, 1000000, 0);
        x.pass(8);
        x.plead(0, 6);
        dueLetter("it tells what was spent before", x, 1, 0, 0, 3, 1, 6, 5);
        x.crash(0);
        Check.throwsDue("down", DOWN, () -> x.plead(0, 1));
        Check.throwsDue("down, and a wrong n", WRONG, () -> x.plead(0, 0));
        x.restart(0);
        x.plead(0, 6);
        dueLetter("behind a crash what was stored", x, 2, 0, 0, 4, 1, 6, 16);
        x.desk(true);
        x.plead(1, 1);
        Check.due("the desk may be down", x.count(0), 4);
        for (int k = 0; k < 49; k++) {
            x.plead(1, 1);
        }
        Check.throwsDue("50 are not received", SHUT, () -> x.plead(1, 1));
        Check.throwsDue("shut, and a wrong n", WRONG, () -> x.plead(1, 0));
        x.plead(2, 1);
        x.crash(1);
        Check.throwsDue("shut and down", DOWN, () -> x.plead(1, 1));
    }

    private static void pleadAtOnce() {
        QuotaDesk x = new QuotaDesk();
        x.plead(0, 70);
        x.plead(1, 70);
        x.plead(2, 70);
        x.deliver(0);
        dueLetter("all", x, 2, 2, 0, 1, 0, 70, 0);
        dueLetter("then the receipt", x, 3, 3, 0, 1, 0, 0, 0);
        x.deliver(0);
        dueLetter("what is there", x, 3, 2, 1, 1, 0, 30, 0);
        Check.due("none: still taken", x.deliver(0), 1);
        Check.due("none: no letter but the receipt", x.count(0), 5);
        dueLetter("none: the receipt", x, 4, 3, 2, 1, 0, 0, 0);
        QuotaDesk y = new QuotaDesk();
        for (int k = 0; k < 51; k++) {
            y.plead(0, 1);
            Check.due("taken", y.deliver(0), 1);
            if (k < 50) {
                y.deliver(1);
                y.lose(0);
            }
        }
        Check.due("50 grants are not received: nothing is granted", y.there(0), 50);
        Check.due("but there is a receipt", y.count(0), 1);
        Check.due("and the 50", y.resend(0), 51);
    }

    // Promise 8
    private static void back() {
        QuotaDesk x = new QuotaDesk();
        fetch(x, 0, 40);
        x.admit(0, 1);
        Check.throwsDue("back(3, 0, 1)", NO_SUCH, () -> x.back(3, 0, 1));
        Check.throwsDue("back(-1, 0, 1)", NO_SUCH, () -> x.back(-1, 0, 1));
        Check.throwsDue("n is 0", WRONG, () -> x.back(0, 0, 0));
        Check.throwsDue("n is below 0", WRONG, () -> x.back(0, 0, -1));
        Check.throwsDue("n is least", WRONG, () -> x.back(0, 0, Integer.MIN_VALUE));
        Check.throwsDue("what is stored is not given", WRONG, () -> x.back(0, 0, 25));
        Check.throwsDue("window -1", WRONG, () -> x.back(0, -1, 1));
        Check.throwsDue("window 1: none", WRONG, () -> x.back(0, 1, 1));
        Check.throwsDue("window 3", WRONG, () -> x.back(0, 3, 1));
        Check.throwsDue("another gate", WRONG, () -> x.back(1, 0, 1));
        Check.due("nothing was sent", x.count(0), 0);
        x.back(0, 0, 10);
        Check.due("its share is less at once", x.has(0, 0, 0), 30);
        Check.due("the desk's is not more yet", x.there(0), 60);
        dueLetter("the return", x, 0, 1, 0, 2, 0, 10, 0);
        Check.due("it is taken", x.deliver(0), 1);
        Check.due("units are there again", x.there(0), 70);
        x.back(0, 0, 14);
        Check.due("down to what is stored", x.has(0, 0, 0), 16);
        Check.due("and these can be spent", x.admit(0, 100), 15);
        x.crash(0);
        Check.throwsDue("down", DOWN, () -> x.back(0, 0, 1));
        Check.throwsDue("down, and a wrong n", DOWN, () -> x.back(0, 0, 0));
        backLate();
        backShut();
    }

    private static void backLate() {
        QuotaDesk x = new QuotaDesk();
        fetch(x, 0, 40);
        x.pass(8);
        x.back(0, 0, 10);
        dueLetter("of the window before", x, 0, 1, 0, 2, 0, 10, 0);
        x.twice(0);
        x.deliver(0);
        Check.due("given back", x.there(0), 70);
        Check.due("doubled: nothing", x.deliver(0), 0);
        Check.due("doubled: nothing more", x.there(0), 70);
        x.back(0, 0, 5);
        x.pass(10);
        Check.throwsDue("it is not kept", WRONG, () -> x.back(0, 0, 1));
        Check.due("late: taken", x.deliver(2), 1);
        Check.due("late: but of no use", x.there(0), 0);
        Check.due("late: other windows do not get it", x.there(1) + x.there(2) + x.there(3), 300);
    }

    private static void backShut() {
        QuotaDesk x = new QuotaDesk();
        fetch(x, 0, 60);
        for (int k = 0; k < 50; k++) {
            x.back(0, 0, 1);
        }
        Check.throwsDue("50 are not received", SHUT, () -> x.back(0, 0, 1));
        Check.throwsDue("shut, and a wrong n", WRONG, () -> x.back(0, 0, 11));
        Check.due("a call that throws changes nothing", x.has(0, 0, 0), 10);
        x.deliver(0);
        Check.throwsDue("taken, not received", SHUT, () -> x.back(0, 0, 1));
        x.deliver(x.count(0) - 1);
        x.back(0, 0, 1);
        Check.due("received", x.has(0, 0, 0), 9);
    }

    // Promise 9
    private static void splitEqually() {
        QuotaDesk none = new QuotaDesk();
        Check.due("nothing waits", none.split(), 0);
        none.desk(true);
        Check.throwsDue("the desk is down", DOWN, none::split);
        QuotaDesk x = waiting(made(10, 10, 0, 4), 1, 9, 9, 9, 9);
        Check.due("all", x.split(), 10);
        dueLetter("by gates", x, 0, 2, 0, 1, 0, 3, 0);
        dueLetter("by gates", x, 3, 2, 3, 1, 0, 2, 0);
        dueShares("the least gates get the rest", x, 0, 3, 3, 2, 2);
        x = waiting(made(20, 10, 0, 4), 1, 2, 30, 0, 5);
        Check.due("all", x.split(), 20);
        dueShares("not more than wanted", x, 0, 2, 13, 0, 5);
        x = waiting(made(100, 10, 0, 4), 1, 2, 30, 0, 5);
        Check.due("no more than wanted", x.split(), 37);
        Check.due("one letter each, none to gate 2", x.count(0), 3);
        Check.due("the others stay", x.there(0), 63);
        x = waiting(made(2, 10, 0, 4), 1, 0, 7, 7, 7);
        Check.due("fewer than gates", x.split(), 2);
        Check.due("fewer letters than gates", x.count(0), 2);
        dueShares("the least gates", x, 0, 0, 1, 1, 0);
        x = new QuotaDesk();
        fetch(x, 0, 90);
        waiting(x, 1, 9, 9, 0);
        Check.due("all", x.split(), 10);
        dueShares("by what the split gave, not by shares", x, 0, 95, 5, 0);
        x = waiting(made(20, 10, 0, 2), 1, 5, 50);
        x.plead(0, 5);
        x.deliverAll(99);
        Check.due("pleas of a gate and window are one", x.count(3), 2);
        x.split();
        dueShares("added", x, 0, 10, 10);
    }

    private static void splitByUse() {
        QuotaDesk x = waiting(spentBefore(100, 10, 30, 0), 2, 90, 90, 90);
        Check.due("all", x.split(), 100);
        dueShares("by use", x, 1, 25, 75, 0);
        x = waiting(spentBefore(100, 1, 1, 1), 2, 90, 90, 90);
        x.split();
        dueShares("same remainders: the least gate", x, 1, 34, 33, 33);
        x = waiting(spentBefore(10, 1, 2, 4), 2, 90, 90, 90);
        x.split();
        dueShares("10/7 20/7 40/7: the greatest remainder", x, 1, 1, 3, 6);
        x = waiting(spentBefore(9, 1, 2, 4), 2, 90, 90, 90);
        x.split();
        dueShares("9/7 18/7 36/7: by remainders, not by parts", x, 1, 1, 3, 5);
        x = waiting(spentBefore(100, 1, 0), 2, 90, 90);
        x.split();
        dueShares("a sum of 1 is not 0", x, 1, 90, 10);
        x = waiting(spentBefore(100, 40, 10, 8), 2, 20, 30, 90);
        x.split();
        dueShares("17 and 13 first, then not more than wanted", x, 1, 20, 30, 50);
        x = waiting(spentBefore(100, 30, 0, 0), 2, 90, 0, 90);
        x.split();
        dueShares("what one does not want goes on", x, 1, 90, 0, 10);
        x = waiting(spentBefore(100, 50, 10, 10), 2, 20, 90, 90);
        x.split();
        dueShares("anew, by use", x, 1, 20, 40, 40);
        x = waiting(spentBefore(100, 0, 0, 5), 2, 90, 90, 7);
        x.split();
        dueShares("anew, equally", x, 1, 47, 46, 7);
        x = waiting(spentBefore(100, 0, 0, 0), 2, 90, 90, 90);
        x.split();
        dueShares("no use: equally", x, 1, 34, 33, 33);
        x = waiting(spentBefore(100, 10, 10, 10), 2, 5, 6, 7);
        Check.due("no more than wanted", x.split(), 18);
        Check.due("the others stay", x.there(1), 82);
        x = waiting(spentBefore(4, 3, 0, 0), 2, 3, 3, 0);
        x.split();
        dueShares("one unit to who used none", x, 1, 3, 1, 0);
        splitByLatestUse();
    }

    private static void splitByLatestUse() {
        QuotaDesk x = new QuotaDesk();
        fetch(x, 0, 48);
        fetch(x, 1, 16);
        x.admit(0, 1);
        x.admit(1, 16);
        x.pass(8);
        x.rule(2);
        x.plead(0, 50);
        x.plead(1, 90);
        x.crash(0);
        x.restart(0);
        x.plead(0, 40);
        x.deliverAll(99);
        Check.due("two wait", x.count(3), 2);
        x.split();
        dueShares("what the latest plea told: 16 and 16", x, 1, 50, 50);
    }

    private static void splitOfSeveralWindows() {
        QuotaDesk x = made(10, 10, 4, 2);
        x.error(0, -4);
        x.error(1, 4);
        x.pass(6);
        x.rule(1);
        x.plead(1, 8);
        x.plead(0, 8);
        x.deliverAll(99);
        Check.due("gate 0 is in window 0", x.about(0, 1), 0);
        Check.due("gate 1 is in window 1", x.about(1, 1), 1);
        Check.due("both wait", x.count(3), 2);
        Check.due("both are split", x.split(), 16);
        dueLetter("the least window first", x, 0, 2, 0, 1, 0, 8, 0);
        dueLetter("then the next", x, 1, 2, 1, 1, 1, 8, 0);
        Check.due("nothing waits", x.count(3), 0);
        x = made(10, 10, 4, 2);
        x.error(1, 4);
        x.pass(2);
        waiting(x, 1, 8, 9);
        Check.due("the desk's window and the one behind it", x.split(), 17);
        dueLetter("its own", x, 0, 2, 0, 1, 0, 8, 0);
        dueLetter("the one behind it", x, 1, 2, 1, 1, 1, 9, 0);
        for (int before : new int[] {48, 49, 50}) {
            splitNearTheLimit(before);
        }
    }

    /** A gate with pleas for two windows, to which so many grants are on their way. */
    private static void splitNearTheLimit(int before) {
        QuotaDesk x = made(100, 10, 4, 2);
        x.error(0, -4);
        for (int k = 0; k < before; k++) {
            x.plead(0, 1);
            x.deliver(0);
            x.deliver(1);
            x.lose(0);
        }
        x.pass(5);
        x.rule(1);
        x.plead(0, 3);
        x.plead(1, 90);
        x.deliverAll(2);
        x.pass(5);
        x.plead(0, 4);
        x.plead(1, 90);
        x.deliver(x.count(0) - 2);
        x.deliver(x.count(0) - 2);
        x.lose(0);
        Check.due("gates and windows", x.count(3), 4);
        int first = before < 50 ? 3 : 0;
        int second = before < 49 ? 4 : 0;
        int others = Math.min(90, 100 - before - first) + 90;
        Check.due("a split behind " + before, x.split(), first + second + others);
        Check.due("all pleas are gone", x.count(3), 0);
        Check.due("window 0 behind " + before, x.there(0), 100 - before - first - Math.min(90, 100 - before - first));
        Check.due("window 1 behind " + before, x.there(1), 100 - 90 - second);
    }

    private static void splitForgets() {
        QuotaDesk x = waiting(made(5, 10, 0, 2), 1, 9, 9);
        x.split();
        Check.due("pleas that got too little are gone", x.count(3), 0);
        Check.due("a second split", x.split(), 0);
        x = waiting(made(5, 10, 0, 2), 1, 9, 9);
        x.split();
        waiting(x, 1, 9, 9);
        Check.due("nothing is there", x.split(), 0);
        Check.due("no letters", x.count(0), 0);
        Check.due("and nothing waits", x.count(3), 0);
        x = waiting(new QuotaDesk(), 1, 9, 9, 9);
        x.pass(17);
        Check.due("the window before is kept", x.count(3), 3);
        x.pass(1);
        Check.due("pleas of a window that is dropped", x.count(3), 0);
        Check.due("get nothing", x.split(), 0);
        Check.due("and nothing of a later window", x.there(3), 100);
    }

    // Promise 10
    private static void deliver() {
        QuotaDesk x = new QuotaDesk();
        Check.throwsDue("no letter", NO_SUCH, () -> x.deliver(0));
        x.plead(0, 3);
        x.plead(0, 4);
        x.plead(1, 5);
        Check.throwsDue("deliver(3)", NO_SUCH, () -> x.deliver(3));
        Check.throwsDue("deliver(-1)", NO_SUCH, () -> x.deliver(-1));
        Check.due("not the next number", x.deliver(1), 0);
        dueLetter("a receipt all the same", x, 2, 3, 0, 0, 0, 0, 0);
        Check.due("the receipt came", x.deliver(2), 2);
        Check.due("the first one is taken", x.deliver(0), 1);
        dueLetter("the others moved up", x, 0, 0, 1, 1, 0, 5, 0);
        Check.due("its grant", x.deliver(1), 1);
        Check.due("the share", x.has(0, 0, 0), 3);
        dueLetter("the grant's receipt", x, 2, 4, 0, 1, 0, 0, 0);
        Check.due("two letters are not received", x.resend(0), 3);
        Check.due("old receipt to the gate", x.deliver(1), 2);
        Check.due("receipt to the desk", x.deliver(1), 2);
        Check.due("only letter 2 now", x.resend(0), 1);
        Check.due("the first one again", x.deliver(1), 0);
        Check.due("the second", x.deliver(1), 1);
        deliverLateReceipt();
        deliverToDown();
    }

    private static void deliverLateReceipt() {
        QuotaDesk x = new QuotaDesk();
        x.rule(1);
        x.plead(0, 1);
        x.plead(0, 1);
        x.deliver(0);
        x.deliver(0);
        Check.due("the second receipt", x.deliver(1), 2);
        Check.due("all up to it are received", x.resend(0), 0);
        Check.due("the first comes late", x.deliver(0), 2);
        Check.due("and makes nothing undone", x.resend(0), 0);
    }

    private static void deliverToDown() {
        QuotaDesk x = new QuotaDesk();
        x.plead(0, 3);
        x.desk(true);
        x.twice(0);
        Check.due("a plea to a desk that is down", x.deliver(0), 0);
        Check.due("no receipt", x.count(0), 1);
        x.desk(false);
        Check.due("the same one later", x.deliver(0), 1);
        x.twice(0);
        x.twice(1);
        x.crash(0);
        Check.due("a grant to a gate that is down", x.deliver(0), 0);
        Check.due("a receipt to it", x.deliver(0), 0);
        Check.due("no receipts", x.count(0), 2);
        Check.due("neither is received", x.resend(0), 2);
        x.restart(0);
        Check.due("the grant later", x.deliver(0), 1);
        x.desk(true);
        Check.due("the receipt later", x.deliver(0), 2);
        x.lose(0);
        Check.due("doubled", x.deliver(0), 0);
        x.twice(0);
        Check.due("a receipt to a desk that is down", x.deliver(0), 0);
        Check.due("the grant is not received", x.resend(0), 1);
    }

    private static void deliverAcrossWindows() {
        QuotaDesk x = new QuotaDesk();
        x.plead(0, 30);
        x.pass(8);
        Check.due("a plea of the window before", x.deliver(0), 1);
        Check.due("is granted", x.there(0), 70);
        x.pass(9);
        Check.due("a grant of the window before", x.deliver(0), 1);
        Check.due("is added", x.has(0, 0, 0), 30);
        x.plead(1, 30);
        x.pass(11);
        int last = x.count(0) - 1;
        Check.due("window 3", x.about(1, 1), 3);
        Check.due("a plea of a window that is dropped is taken", x.deliver(last), 1);
        dueLetter("with a receipt alone", x, last, 3, 1, 1, 0, 0, 0);
        Check.due("nothing is granted", x.there(2) + x.there(3) + x.there(4), 300);
        x.plead(2, 30);
        x.deliver(x.count(0) - 1);
        x.pass(20);
        int grant = x.count(0) - 2;
        dueLetter("a grant", x, grant, 2, 2, 1, 3, 30, 0);
        Check.due("of a window that is dropped is taken", x.deliver(grant), 1);
        for (int window = 3; window <= 6; window++) {
            Check.due("and adds nothing", x.has(2, window, 0), 0);
        }
        QuotaDesk ahead = made(50, 10, 4, 1);
        ahead.error(0, 4);
        ahead.pass(2);
        fetch(ahead, 0, 7);
        Check.due("a gate ahead gets of the window behind the desk's", ahead.has(0, 1, 0), 7);
        Check.due("from there", ahead.there(1), 43);
    }

    // Promise 11
    private static void deliverAll() {
        QuotaDesk x = new QuotaDesk();
        Check.throwsDue("deliverAll(-1)", WRONG, () -> x.deliverAll(-1));
        Check.throwsDue("deliverAll(1001)", WRONG, () -> x.deliverAll(1001));
        Check.due("an empty pool", x.deliverAll(1000), 0);
        x.plead(0, 3);
        x.plead(1, 4);
        Check.due("none", x.deliverAll(0), 0);
        Check.due("nothing came", x.there(0), 100);
        Check.due("one", x.deliverAll(1), 1);
        Check.due("the first one", x.there(0), 97);
        Check.due("what is put there comes too", x.deliverAll(1000), 7);
        Check.due("all came", x.count(0), 0);
        x.desk(true);
        x.plead(0, 1);
        Check.due("what is nothing counts", x.deliverAll(9), 1);
    }

    // Promise 12
    private static void lose() {
        QuotaDesk x = new QuotaDesk();
        Check.throwsDue("no letter", NO_SUCH, () -> x.lose(0));
        for (int k = 1; k <= 4; k++) {
            x.plead(0, k);
        }
        Check.throwsDue("lose(4)", NO_SUCH, () -> x.lose(4));
        Check.throwsDue("lose(-1)", NO_SUCH, () -> x.lose(-1));
        x.lose(1);
        Check.due("one less", x.count(0), 3);
        dueLetter("the one before stays", x, 0, 0, 0, 1, 0, 1, 0);
        dueLetter("those behind move up", x, 1, 0, 0, 3, 0, 3, 0);
        dueLetter("all of them", x, 2, 0, 0, 4, 0, 4, 0);
        x.lose(2);
        x.lose(0);
        dueLetter("the last one", x, 0, 0, 0, 3, 0, 3, 0);
        Check.due("nothing came", x.there(0), 100);
        Check.due("they can be sent again", x.resend(0), 4);
    }

    // Promise 13
    private static void twice() {
        QuotaDesk x = new QuotaDesk();
        Check.throwsDue("no letter", NO_SUCH, () -> x.twice(0));
        x.plead(0, 7);
        x.plead(1, 8);
        Check.throwsDue("twice(2)", NO_SUCH, () -> x.twice(2));
        Check.throwsDue("twice(-1)", NO_SUCH, () -> x.twice(-1));
        x.twice(0);
        Check.due("one more", x.count(0), 3);
        dueLetter("at the end", x, 2, 0, 0, 1, 0, 7, 0);
        dueLetter("and where it was", x, 0, 0, 0, 1, 0, 7, 0);
        Check.due("taken once", x.deliver(0), 1);
        Check.due("and not again", x.deliver(1), 0);
        Check.due("granted once", x.there(0), 93);
        while (x.count(0) < 200) {
            x.twice(0);
        }
        Check.throwsDue("there are 200", WRONG, () -> x.twice(0));
        Check.throwsDue("there are 200, and no such letter", NO_SUCH, () -> x.twice(200));
        x.lose(5);
        x.twice(198);
        Check.due("200 again", x.count(0), 200);
    }

    // Promise 14
    private static void resend() {
        QuotaDesk x = new QuotaDesk();
        Check.throwsDue("resend(3)", NO_SUCH, () -> x.resend(3));
        Check.throwsDue("resend(-1)", NO_SUCH, () -> x.resend(-1));
        Check.due("nothing", x.resend(0), 0);
        x.plead(0, 9);
        x.deliver(0);
        x.lose(1);
        x.lose(0);
        x.plead(0, 8);
        x.lose(0);
        x.plead(1, 3);
        x.crash(0);
        x.desk(true);
        Check.due("also when both are down", x.resend(0), 3);
        dueLetter("behind what is there", x, 0, 0, 1, 1, 0, 3, 0);
        dueLetter("from it by numbers", x, 1, 0, 0, 1, 0, 9, 0);
        dueLetter("from it by numbers", x, 2, 0, 0, 2, 0, 8, 0);
        dueLetter("then those to it", x, 3, 2, 0, 1, 0, 9, 0);
        Check.due("again, though they are there", x.resend(0), 3);
        Check.due("all are put there", x.count(0), 7);
        x.restart(0);
        x.desk(false);
        x.deliverAll(1000);
        Check.due("in the end all are received", x.resend(0), 0);
        Check.due("each was taken once", x.has(0, 0, 0), 17);
        x.pass(8);
        x.admit(0, 1);
        x.plead(0, 2);
        x.lose(0);
        x.pass(30);
        x.resend(0);
        dueLetter("as it was sent", x, 0, 0, 0, 3, 1, 2, 0);
        QuotaDesk y = new QuotaDesk();
        fetch(y, 0, 20);
        y.admit(0, 6);
        y.pass(8);
        y.plead(0, 2);
        y.back(0, 0, 4);
        y.lose(0);
        y.lose(0);
        Check.due("a plea and a return", y.resend(0), 2);
        dueLetter("with what it told", y, 0, 0, 0, 2, 1, 2, 6);
        dueLetter("with its window", y, 1, 1, 0, 3, 0, 4, 0);
    }

    // Promise 15
    private static void letter() {
        QuotaDesk x = new QuotaDesk();
        Check.throwsDue("no letter", NO_SUCH, () -> x.letter(0, 0));
        Check.throwsDue("no letter, and a wrong what", NO_SUCH, () -> x.letter(0, 6));
        fetch(x, 1, 20);
        x.admit(1, 4);
        x.pass(8);
        x.plead(1, 33);
        x.back(1, 0, 3);
        dueLetter("a plea", x, 0, 0, 1, 2, 1, 33, 4);
        dueLetter("a return", x, 1, 1, 1, 3, 0, 3, 0);
        x.deliver(0);
        dueLetter("a grant", x, 1, 2, 1, 2, 1, 33, 0);
        dueLetter("a receipt to a gate", x, 2, 3, 1, 2, 0, 0, 0);
        x.deliver(1);
        dueLetter("a receipt to the desk", x, 2, 4, 1, 2, 0, 0, 0);
        for (int what : new int[] {-1, 6, Integer.MAX_VALUE, Integer.MIN_VALUE}) {
            Check.throwsDue("letter(0, " + what + ")", WRONG, () -> x.letter(0, what));
        }
        Check.throwsDue("letter(-1, 0)", NO_SUCH, () -> x.letter(-1, 0));
        Check.throwsDue("letter(3, 0)", NO_SUCH, () -> x.letter(3, 0));
    }

    private static void fullPool() {
        QuotaDesk x = made(1000, 10, 2, 8);
        for (int k = 0; k < 200; k++) {
            x.plead(k / 50, 1);
        }
        x.plead(7, 5);
        Check.due("more than 200 are lost at once", x.count(0), 200);
        Check.due("but they are sent", x.resend(7), 1);
        Check.due("and lost again", x.count(0), 200);
        dueLetter("the last one is an older one", x, 199, 0, 3, 50, 0, 1, 0);
        Check.due("one leaves", x.deliver(0), 1);
        Check.due("one comes, the receipt is lost", x.count(0), 200);
        dueLetter("it is the grant", x, 199, 2, 0, 1, 0, 1, 0);
        x.lose(0);
        Check.due("how many there are, not how many were put", x.resend(3), 50);
        Check.due("one was put", x.count(0), 200);
        dueLetter("the first of them", x, 199, 0, 3, 1, 0, 1, 0);
        x.rule(1);
        x.lose(0);
        x.plead(7, 6);
        x.lose(0);
        x.resend(7);
        dueLetter("by numbers", x, 199, 0, 7, 1, 0, 5, 0);
    }

    // Promise 16
    private static void crash() {
        QuotaDesk x = new QuotaDesk();
        Check.throwsDue("crash(3)", NO_SUCH, () -> x.crash(3));
        Check.throwsDue("crash(-1)", NO_SUCH, () -> x.crash(-1));
        waiting(x, 1, 9, 9);
        x.crash(0);
        Check.due("it is down", x.about(0, 2), 0);
        Check.due("the others are not", x.about(1, 2), 1);
        Check.throwsDue("it is down already", DOWN, () -> x.crash(0));
        Check.due("its pleas wait on at the desk", x.count(3), 2);
        Check.due("and are granted", x.split(), 18);
        Check.due("its grant is nothing", x.deliver(0), 0);
    }

    // Promise 17
    private static void restart() {
        QuotaDesk x = new QuotaDesk();
        Check.throwsDue("restart(3)", NO_SUCH, () -> x.restart(3));
        Check.throwsDue("restart(-1)", NO_SUCH, () -> x.restart(-1));
        Check.due("it is up", x.restart(0), false);
        fetch(x, 0, 40);
        x.admit(0, 17);
        Check.due("up: nothing", x.restart(0), false);
        dueHas("up: nothing", x, 40, 17, 32);
        x.plead(0, 5);
        x.lose(0);
        x.crash(0);
        Check.due("it was down", x.restart(0), true);
        dueHas("what is stored is spent", x, 40, 32, 32);
        Check.due("it was up", x.restart(0), false);
        Check.due("up again", x.about(0, 2), 1);
        Check.due("its letters stay", x.resend(0), 1);
        Check.due("the rest of its share", x.admit(0, 100), 8);
        Check.due("only what was admitted is used", x.used(0), 25);
        fetch(x, 0, 10);
        x.admit(0, 1);
        x.pass(8);
        x.crash(0);
        x.restart(0);
        Check.due("of the window before too", x.has(0, 0, 1), x.has(0, 0, 2));
        x.deliverAll(99);
        x.plead(0, 1);
        Check.due("numbers go on", x.deliver(0), 1);
    }

    // Promise 18
    private static void desk() {
        QuotaDesk x = new QuotaDesk();
        Check.due("it is up", x.desk(false), false);
        fetch(x, 0, 30);
        waiting(x, 1, 0, 9, 9);
        Check.due("two wait", x.count(3), 2);
        Check.due("up again: nothing", x.desk(false), false);
        Check.due("two still wait", x.count(3), 2);
        Check.due("it goes down", x.desk(true), true);
        Check.due("it is down", x.desk(true), false);
        Check.due("units stay", x.there(0), 70);
        Check.throwsDue("no split", DOWN, x::split);
        x.plead(0, 1);
        Check.due("nothing comes", x.deliver(0), 0);
        Check.due("it goes up", x.desk(false), true);
        Check.due("pleas that waited are gone", x.count(3), 0);
        Check.due("and get nothing", x.split(), 0);
        x.resend(0);
        Check.due("numbers and the rule stay", x.deliver(0), 1);
        Check.due("it waits", x.count(3), 1);
    }

    // Promise 19
    private static void about() {
        QuotaDesk x = new QuotaDesk();
        for (int what : new int[] {-1, 3, Integer.MAX_VALUE, Integer.MIN_VALUE}) {
            Check.throwsDue("about(0, " + what + ")", WRONG, () -> x.about(0, what));
        }
        Check.throwsDue("about(3, 9)", NO_SUCH, () -> x.about(3, 9));
        Check.throwsDue("about(-1, 0)", NO_SUCH, () -> x.about(-1, 0));
        x.error(2, -2);
        x.pass(9);
        Check.due("right", x.about(0, 0), 11);
        Check.due("right", x.about(0, 1), 1);
        Check.due("behind", x.about(2, 0), 9);
        Check.due("behind", x.about(2, 1), 0);
        x.crash(2);
        Check.due("down", x.about(2, 2), 0);
        Check.due("up", x.about(1, 2), 1);
    }

    // Promise 20
    private static void has() {
        QuotaDesk x = new QuotaDesk();
        for (int what : new int[] {-1, 3, Integer.MAX_VALUE, Integer.MIN_VALUE}) {
            Check.throwsDue("has(0, 0, " + what + ")", WRONG, () -> x.has(0, 0, what));
            Check.throwsDue("has(0, 77, " + what + ")", WRONG, () -> x.has(0, 77, what));
        }
        Check.throwsDue("has(3, 0, 9)", NO_SUCH, () -> x.has(3, 0, 9));
        Check.throwsDue("has(-1, 0, 0)", NO_SUCH, () -> x.has(-1, 0, 0));
        fetch(x, 0, 20);
        x.admit(0, 3);
        dueHas("ordinary", x, 20, 3, 16);
        for (int window : new int[] {-3, -1, 1, 2, 3, 6, Integer.MAX_VALUE, Integer.MIN_VALUE}) {
            Check.due("has(0, " + window + ", 0)", x.has(0, window, 0), 0);
            Check.due("has(0, " + window + ", 2)", x.has(0, window, 2), 0);
        }
        x.crash(0);
        dueHas("down", x, 20, 3, 16);
        x.pass(18);
        dueHas("dropped", x, 0, 0, 0);
        for (int what = 0; what <= 2; what++) {
            Check.due("the window in its place", x.has(0, 3, what), 0);
        }
        QuotaDesk y = new QuotaDesk();
        for (int window = 0; window < 7; window++) {
            fetch(y, 1, 20);
            y.admit(1, 3);
            for (int k = window - 2; k <= window + 2; k++) {
                boolean kept = k >= 0 && (k == window - 1 || k == window);
                Check.due("window " + window + ": share of " + k, y.has(1, k, 0), kept ? 20 : 0);
                Check.due("window " + window + ": spent of " + k, y.has(1, k, 1), kept ? 3 : 0);
                Check.due("window " + window + ": stored of " + k, y.has(1, k, 2), kept ? 16 : 0);
            }
            y.pass(10);
        }
    }

    // Promise 21
    private static void there() {
        QuotaDesk x = new QuotaDesk();
        fetch(x, 0, 100);
        Check.due("all granted", x.there(0), 0);
        Check.due("the next one is whole", x.there(1), 100);
        for (int window : new int[] {-3, -1, 2, 3, Integer.MAX_VALUE, Integer.MIN_VALUE}) {
            Check.due("there(" + window + ")", x.there(window), 0);
        }
        x.pass(28);
        int[] due = {0, 0, 100, 100, 100, 0, 0};
        for (int window = 0; window < due.length; window++) {
            Check.due("window 3: there(" + window + ")", x.there(window), due[window]);
        }
    }

    // Promise 22
    private static void used() {
        QuotaDesk x = made(1000, 10, 0, 2);
        fetch(x, 0, 30);
        fetch(x, 1, 30);
        x.admit(0, 10);
        x.admit(1, 7);
        x.admit(1, 2);
        Check.due("of all gates", x.used(0), 19);
        x.pass(1990);
        Check.due("ever", x.used(0), 19);
        fetch(x, 1, 5);
        x.admit(1, 9);
        Check.due("window 199", x.used(199), 5);
        x.pass(10);
        fetch(x, 1, 5);
        Check.due("window 200: admitted", x.admit(1, 4), 4);
        Check.due("window 200: not counted", x.used(200), 0);
        for (int window : new int[] {-1, 1, Integer.MAX_VALUE, Integer.MIN_VALUE}) {
            Check.due("used(" + window + ")", x.used(window), 0);
        }
    }

    // Promise 23
    private static void busiest() {
        QuotaDesk x = made(1000000, 10000, 0, 2);
        for (int ticks : new int[] {0, -1, 1000001, Integer.MIN_VALUE}) {
            Check.throwsDue("busiest(" + ticks + ")", WRONG, () -> x.busiest(ticks));
        }
        Check.due("none", x.busiest(1), 0);
        fetch(x, 0, 5000);
        fetch(x, 1, 100);
        x.admit(0, 5);
        x.admit(1, 2);
        Check.due("one tick, two gates", x.busiest(1), 7);
        x.pass(1);
        x.admit(0, 4);
        x.pass(2);
        x.admit(0, 6);
        Check.due("1 tick", x.busiest(1), 7);
        Check.due("2 ticks", x.busiest(2), 11);
        Check.due("3 ticks", x.busiest(3), 11);
        Check.due("4 ticks", x.busiest(4), 17);
        Check.due("all", x.busiest(1000000), 17);
        x.pass(100);
        x.admit(0, 1000);
        x.pass(1);
        x.admit(0, 984);
        Check.due("2001: the oldest is forgotten", x.busiest(1000000), 2000);
        Check.due("true time, not clocks", x.busiest(2), 1984);
        x.pass(1);
        x.admit(0, 10);
        x.pass(1);
        Check.due("the latest 2000", x.busiest(102), 2000 - 6);
        Check.due("all of them", x.busiest(103), 2000);
        x.admit(0, 1);
        Check.due("one more tick", x.busiest(4), 1995);
        Check.due("still 2000", x.busiest(1000000), 2000);
        x.setup(1000000, 10000, 0, 1);
        Check.due("anew: none", x.busiest(1000000), 0);
        fetch(x, 0, 5000);
        for (int k = 0; k < 6; k++) {
            x.admit(0, 500 + k);
            x.pass(10);
        }
        Check.due("anew: the latest 2000", x.busiest(1000000), 2000);
        Check.due("anew: a tick", x.busiest(10), 505);
        Check.due("anew: three ticks", x.busiest(21), 504 + 505 + 503);
        QuotaDesk far = made(100, 10, 0, 1);
        fetch(far, 0, 5);
        far.admit(0, 5);
        far.pass(999999);
        fetch(far, 0, 6);
        far.admit(0, 6);
        Check.due("999999 ticks", far.busiest(999999), 6);
        Check.due("1000000 ticks", far.busiest(1000000), 11);
    }

    // Promise 24
    private static void count() {
        QuotaDesk x = made(100, 10, 3, 5);
        for (int what : new int[] {-1, 4, Integer.MAX_VALUE, Integer.MIN_VALUE}) {
            Check.throwsDue("count(" + what + ")", WRONG, () -> x.count(what));
        }
        x.rule(1);
        x.plead(0, 5);
        x.plead(1, 5);
        x.plead(0, 5);
        Check.due("letters", x.count(0), 3);
        Check.due("true time", x.count(1), 3);
        Check.due("gates", x.count(2), 5);
        Check.due("none waits yet", x.count(3), 0);
        x.deliverAll(1000);
        Check.due("gates and windows, not letters", x.count(3), 2);
        x.pass(10);
        x.plead(0, 1);
        x.deliverAll(1000);
        Check.due("one more window", x.count(3), 3);
        Check.due("true time later", x.count(1), 13);
        Check.due("no letters", x.count(0), 0);
    }
}
