import java.util.ArrayList;
import java.util.List;
import java.util.function.Supplier;

/**
 * The sentences of "The public face" behind "Methods throw what their comments name": no such gate or letter, down,
 * which throw comes first, and that a call that throws changes nothing.
 */
public final class ThrowsTest extends Desks {
    /** A call, on whichever object it is tried. */
    private interface Act {
        void on(QuotaDesk x);
    }

    private record Named(String name, Act act) {
    }

    private static final int[] FAR = {Integer.MIN_VALUE, -1000000, 1000000, Integer.MAX_VALUE};

    private ThrowsTest() {
    }

    public static void main(String[] args) {
        for (int gates : new int[] {1, 2, 3, 7, 8}) {
            noSuchGate(gates);
        }
        for (int letters : new int[] {0, 1, 2, 3, 199, 200}) {
            noSuchLetter(letters);
        }
        gateIsDown();
        deskIsDown();
        othersDoNotMindDown();
        firstOfError();
        firstOfAdmit();
        firstOfPlead();
        firstOfBack();
        firstOfTwice();
        firstOfLetter();
        firstOfCrash();
        firstOfAboutAndHas();
        throwingChangesNothing();
        Check.end("ThrowsTest");
    }

    private static void dueFine(String what, Check.Deed deed) {
        try {
            deed.happen();
            Check.due(what, true, true);
        } catch (RuntimeException thrown) {
            Check.fault(what + " threw " + thrown.getClass().getSimpleName() + ", due is no throw");
        }
    }

    private static List<Named> callsOnGate(int gate) {
        String at = "(" + gate + ")";
        List<Named> calls = new ArrayList<>();
        calls.add(new Named("error" + at, x -> x.error(gate, 0)));
        calls.add(new Named("admit" + at, x -> x.admit(gate, 1)));
        calls.add(new Named("plead" + at, x -> x.plead(gate, 1)));
        calls.add(new Named("back" + at, x -> x.back(gate, 0, 1)));
        calls.add(new Named("resend" + at, x -> x.resend(gate)));
        calls.add(new Named("crash" + at, x -> x.crash(gate)));
        calls.add(new Named("restart" + at, x -> x.restart(gate)));
        calls.add(new Named("about" + at, x -> x.about(gate, 0)));
        calls.add(new Named("has" + at, x -> x.has(gate, 0, 0)));
        return calls;
    }

    private static QuotaDesk withShares(int gates) {
        QuotaDesk x = made(100, 10, 2, gates);
        for (int g = 0; g < gates; g++) {
            fetch(x, g, 3);
        }
        return x;
    }

    // "IndexOutOfBoundsException: there is no such gate"
    private static void noSuchGate(int gates) {
        for (int gate : new int[] {-2, -1, gates, gates + 1, 8, 9}) {
            for (Named call : callsOnGate(gate)) {
                Check.throwsDue(call.name + " of " + gates, NO_SUCH, () -> call.act.on(withShares(gates)));
            }
        }
        for (int gate : FAR) {
            for (Named call : callsOnGate(gate)) {
                Check.throwsDue(call.name + " of " + gates, NO_SUCH, () -> call.act.on(withShares(gates)));
            }
        }
        for (int gate = 0; gate < gates; gate++) {
            for (Named call : callsOnGate(gate)) {
                dueFine(call.name + " of " + gates, () -> call.act.on(withShares(gates)));
            }
        }
    }

    private static List<Named> callsOnLetter(int i) {
        String at = "(" + i + ")";
        List<Named> calls = new ArrayList<>();
        calls.add(new Named("deliver" + at, x -> x.deliver(i)));
        calls.add(new Named("lose" + at, x -> x.lose(i)));
        calls.add(new Named("twice" + at, x -> x.twice(i)));
        calls.add(new Named("letter" + at, x -> x.letter(i, 0)));
        return calls;
    }

    private static QuotaDesk withLetters(int letters) {
        QuotaDesk x = made(100, 10, 2, 8);
        for (int k = 0; k < letters; k++) {
            x.plead(k / 50, 1);
        }
        return x;
    }

    // "IndexOutOfBoundsException: there is no such .. letter"
    private static void noSuchLetter(int letters) {
        for (int i : new int[] {-2, -1, letters, letters + 1, 200, 201}) {
            for (Named call : callsOnLetter(i)) {
                Check.throwsDue(call.name + " of " + letters, NO_SUCH, () -> call.act.on(withLetters(letters)));
            }
        }
        for (int i : FAR) {
            for (Named call : callsOnLetter(i)) {
                Check.throwsDue(call.name + " of " + letters, NO_SUCH, () -> call.act.on(withLetters(letters)));
            }
        }
        for (int i : new int[] {0, 1, letters - 2, letters - 1}) {
            if (i >= 0 && i < letters) {
                dueFine("deliver(" + i + ") of " + letters, () -> withLetters(letters).deliver(i));
                dueFine("lose(" + i + ") of " + letters, () -> withLetters(letters).lose(i));
                dueFine("letter(" + i + ") of " + letters, () -> withLetters(letters).letter(i, 0));
            }
            if (i >= 0 && i < letters && letters < 200) {
                dueFine("twice(" + i + ") of " + letters, () -> withLetters(letters).twice(i));
            }
        }
    }

    // "IllegalStateException: the gate .. is down"
    private static void gateIsDown() {
        QuotaDesk x = withShares(3);
        x.crash(1);
        Check.throwsDue("down: admit", DOWN, () -> x.admit(1, 1));
        Check.throwsDue("down: plead", DOWN, () -> x.plead(1, 1));
        Check.throwsDue("down: back", DOWN, () -> x.back(1, 0, 1));
        Check.throwsDue("down: crash", DOWN, () -> x.crash(1));
        for (int gate : new int[] {0, 2}) {
            dueFine("the gates next to it are up: back", () -> x.back(gate, 0, 1));
            dueFine("the gates next to it are up: admit", () -> x.admit(gate, 1));
            dueFine("the gates next to it are up: plead", () -> x.plead(gate, 1));
            dueFine("the gates next to it are up: crash", () -> x.crash(gate));
        }
        x.restart(1);
        dueFine("up again: admit", () -> x.admit(1, 1));
        dueFine("up again: plead", () -> x.plead(1, 1));
        dueFine("up again: crash", () -> x.crash(1));
    }

    // "IllegalStateException: .. (or desk) is down"
    private static void deskIsDown() {
        QuotaDesk x = withShares(3);
        dueFine("up: split", x::split);
        x.desk(true);
        Check.throwsDue("down: split", DOWN, x::split);
        dueFine("a gate does not mind: admit", () -> x.admit(0, 1));
        dueFine("a gate does not mind: plead", () -> x.plead(0, 1));
        dueFine("a gate does not mind: back", () -> x.back(1, 0, 1));
        x.desk(false);
        dueFine("up again: split", x::split);
        x.crash(0);
        x.crash(1);
        x.crash(2);
        dueFine("all gates are down, the desk is not: split", x::split);
    }

    private static void othersDoNotMindDown() {
        QuotaDesk x = withShares(2);
        x.plead(0, 1);
        x.plead(0, 1);
        x.crash(0);
        x.crash(1);
        x.desk(true);
        dueFine("pass", () -> x.pass(1));
        dueFine("error", () -> x.error(0, 1));
        dueFine("rule", () -> x.rule(1));
        dueFine("twice", () -> x.twice(0));
        dueFine("lose", () -> x.lose(0));
        dueFine("deliver", () -> x.deliver(0));
        dueFine("deliverAll", () -> x.deliverAll(1000));
        dueFine("resend", () -> x.resend(0));
        dueFine("letter", () -> x.letter(0, 5));
        dueFine("about", () -> x.about(0, 2));
        dueFine("has", () -> x.has(0, 0, 0));
        dueFine("looks at the desk", () -> x.there(x.used(0) + x.busiest(1) + x.count(3)));
        dueFine("restart", () -> x.restart(0));
        dueFine("setup", () -> x.setup(1, 2, 0, 1));
    }

    // "the one named first when several would do", method by method; each wrong thing alone stands there too.
    private static void firstOfError() {
        QuotaDesk x = new QuotaDesk();
        Check.throwsDue("gate and e", NO_SUCH, () -> x.error(3, 3));
        Check.throwsDue("gate and e", NO_SUCH, () -> x.error(-1, -3));
        Check.throwsDue("gate", NO_SUCH, () -> x.error(3, 2));
        Check.throwsDue("e", WRONG, () -> x.error(2, 3));
    }

    private static void firstOfAdmit() {
        QuotaDesk x = withShares(3);
        x.crash(2);
        Check.throwsDue("gate and n", NO_SUCH, () -> x.admit(3, 0));
        Check.throwsDue("gate and n", NO_SUCH, () -> x.admit(-1, 1001));
        Check.throwsDue("gate", NO_SUCH, () -> x.admit(3, 1));
        Check.throwsDue("n and down", WRONG, () -> x.admit(2, 0));
        Check.throwsDue("n and down", WRONG, () -> x.admit(2, 1001));
        Check.throwsDue("n", WRONG, () -> x.admit(1, 0));
        Check.throwsDue("down", DOWN, () -> x.admit(2, 1));
        Check.throwsDue("down", DOWN, () -> x.admit(2, 1000));
    }

    /** Gate 1 is shut, gate 2 is down, gate 3 is both; each has units to give back. */
    private static QuotaDesk shutAndDown() {
        QuotaDesk x = withShares(4);
        pleadOften(x, 1, 50);
        pleadOften(x, 3, 50);
        x.crash(2);
        x.crash(3);
        return x;
    }

    private static void firstOfPlead() {
        QuotaDesk x = shutAndDown();
        Check.throwsDue("gate and n", NO_SUCH, () -> x.plead(4, 0));
        Check.throwsDue("gate and n", NO_SUCH, () -> x.plead(-1, 1000001));
        Check.throwsDue("gate", NO_SUCH, () -> x.plead(4, 1));
        Check.throwsDue("n", WRONG, () -> x.plead(0, 0));
        Check.throwsDue("n and down", WRONG, () -> x.plead(2, 0));
        Check.throwsDue("n and shut", WRONG, () -> x.plead(1, 1000001));
        Check.throwsDue("n, down and shut", WRONG, () -> x.plead(3, 1000001));
        Check.throwsDue("down", DOWN, () -> x.plead(2, 1));
        Check.throwsDue("down and shut", DOWN, () -> x.plead(3, 1));
        Check.throwsDue("shut", SHUT, () -> x.plead(1, 1));
        Check.throwsDue("shut", SHUT, () -> x.plead(1, 1000000));
        dueFine("none of these", () -> x.plead(0, 1));
    }

    private static void firstOfBack() {
        QuotaDesk x = shutAndDown();
        Check.throwsDue("gate and n", NO_SUCH, () -> x.back(4, 0, 0));
        Check.throwsDue("gate and window", NO_SUCH, () -> x.back(-1, 2, 1));
        Check.throwsDue("gate", NO_SUCH, () -> x.back(4, 0, 1));
        Check.throwsDue("down and n", DOWN, () -> x.back(2, 0, 0));
        Check.throwsDue("down and too many", DOWN, () -> x.back(2, 0, 4));
        Check.throwsDue("down and window", DOWN, () -> x.back(2, 2, 1));
        Check.throwsDue("down, n and shut", DOWN, () -> x.back(3, 0, 0));
        Check.throwsDue("down and shut", DOWN, () -> x.back(3, 0, 1));
        Check.throwsDue("down", DOWN, () -> x.back(2, 0, 1));
        Check.throwsDue("n and shut", WRONG, () -> x.back(1, 0, 0));
        Check.throwsDue("too many and shut", WRONG, () -> x.back(1, 0, 4));
        Check.throwsDue("window and shut", WRONG, () -> x.back(1, 2, 1));
        Check.throwsDue("n", WRONG, () -> x.back(0, 0, 0));
        Check.throwsDue("shut", SHUT, () -> x.back(1, 0, 1));
        Check.throwsDue("shut", SHUT, () -> x.back(1, 0, 3));
        dueFine("none of these", () -> x.back(0, 0, 3));
    }

    private static void firstOfTwice() {
        QuotaDesk full = withLetters(200);
        Check.throwsDue("letter and 200", NO_SUCH, () -> full.twice(200));
        Check.throwsDue("letter and 200", NO_SUCH, () -> full.twice(-1));
        Check.throwsDue("200", WRONG, () -> full.twice(0));
        Check.throwsDue("200", WRONG, () -> full.twice(199));
        Check.throwsDue("letter", NO_SUCH, () -> withLetters(199).twice(199));
    }

    private static void firstOfLetter() {
        QuotaDesk x = withLetters(2);
        Check.throwsDue("letter and what", NO_SUCH, () -> x.letter(2, 6));
        Check.throwsDue("letter and what", NO_SUCH, () -> x.letter(-1, -1));
        Check.throwsDue("letter", NO_SUCH, () -> x.letter(2, 5));
        Check.throwsDue("what", WRONG, () -> x.letter(1, 6));
    }

    private static void firstOfCrash() {
        QuotaDesk x = withShares(3);
        x.crash(2);
        Check.throwsDue("gate", NO_SUCH, () -> x.crash(3));
        Check.throwsDue("down", DOWN, () -> x.crash(2));
        x.setup(100, 10, 2, 2);
        Check.throwsDue("a gate that was down and is no more", NO_SUCH, () -> x.crash(2));
    }

    private static void firstOfAboutAndHas() {
        QuotaDesk x = new QuotaDesk();
        Check.throwsDue("gate and what", NO_SUCH, () -> x.about(3, 3));
        Check.throwsDue("gate and what", NO_SUCH, () -> x.about(-1, -1));
        Check.throwsDue("gate", NO_SUCH, () -> x.about(3, 2));
        Check.throwsDue("what", WRONG, () -> x.about(2, 3));
        Check.throwsDue("gate and what", NO_SUCH, () -> x.has(3, 0, 3));
        Check.throwsDue("gate and what", NO_SUCH, () -> x.has(-1, 0, -1));
        Check.throwsDue("gate", NO_SUCH, () -> x.has(3, 0, 2));
        Check.throwsDue("what", WRONG, () -> x.has(2, 0, 3));
        Check.throwsDue("what, and a window that is not kept", WRONG, () -> x.has(2, 2, 3));
    }

    /** Shares, spent units, letters both ways, waiting pleas that told something, errors, a gate that is down. */
    private static QuotaDesk busy() {
        QuotaDesk x = made(200, 10, 4, 4);
        for (int g = 0; g < 4; g++) {
            fetch(x, g, 30);
            x.admit(g, 5 + 4 * g);
        }
        x.error(1, 4);
        x.error(2, -4);
        x.pass(9);
        fetch(x, 0, 20);
        x.admit(0, 3);
        x.plead(1, 5);
        x.deliver(0);
        x.rule(2);
        x.plead(0, 50);
        x.plead(3, 60);
        x.deliver(x.count(0) - 2);
        x.deliver(x.count(0) - 2);
        x.plead(2, 7);
        x.back(2, 0, 2);
        x.crash(3);
        return x;
    }

    private static QuotaDesk deskDown() {
        QuotaDesk x = busy();
        x.desk(true);
        x.pass(3);
        return x;
    }

    private static QuotaDesk fullPool() {
        QuotaDesk x = busy();
        while (x.count(0) < 200) {
            x.twice(0);
        }
        return x;
    }

    private static QuotaDesk shutWays() {
        QuotaDesk x = grantsOnTheWay(made(100, 10, 2, 4), 50);
        fetch(x, 1, 9);
        pleadOften(x, 1, 50);
        x.rule(1);
        x.plead(0, 8);
        deliverLast(x);
        return x;
    }

    // "A call that throws changes nothing."
    private static void throwingChangesNothing() {
        List<Named> calls = wrongCalls();
        boolean[] threw = new boolean[calls.size()];
        List<Supplier<QuotaDesk>> states = List.of(QuotaDesk::new, ThrowsTest::busy, ThrowsTest::deskDown,
                ThrowsTest::fullPool, ThrowsTest::shutWays);
        for (Supplier<QuotaDesk> state : states) {
            String due = State.told(state.get());
            Check.due("the same calls tell the same", State.told(state.get()).equals(due), true);
            for (int k = 0; k < calls.size(); k++) {
                threw[k] |= changesNothing(calls.get(k), state.get(), due);
            }
        }
        for (int k = 0; k < threw.length; k++) {
            Check.due(calls.get(k).name + " throws somewhere", threw[k], true);
        }
    }

    private static boolean changesNothing(Named call, QuotaDesk x, String due) {
        try {
            call.act.on(x);
            return false;
        } catch (RuntimeException thrown) {
            Check.due(call.name + " throws and changes nothing", State.told(x).equals(due), true);
            return true;
        }
    }

    private static List<Named> wrongCalls() {
        List<Named> calls = new ArrayList<>();
        int[][] setups = {{0, 10, 2, 3}, {1000001, 10, 2, 3}, {7, 1, 0, 2}, {7, 10001, 2, 2}, {7, 12, -1, 2},
            {7, 12, 6, 2}, {7, 12, 2, 0}, {7, 12, 2, 9}};
        for (int[] s : setups) {
            calls.add(new Named("setup", x -> x.setup(s[0], s[1], s[2], s[3])));
        }
        calls.add(new Named("pass(-1)", x -> x.pass(-1)));
        calls.add(new Named("pass(1000001)", x -> x.pass(1000001)));
        calls.add(new Named("error(0, 5)", x -> x.error(0, 5)));
        calls.add(new Named("error(0, -5)", x -> x.error(0, -5)));
        calls.add(new Named("rule(-1)", x -> x.rule(-1)));
        calls.add(new Named("rule(3)", x -> x.rule(3)));
        calls.add(new Named("split()", QuotaDesk::split));
        calls.add(new Named("deliverAll(-1)", x -> x.deliverAll(-1)));
        calls.add(new Named("deliverAll(1001)", x -> x.deliverAll(1001)));
        calls.add(new Named("busiest(0)", x -> x.busiest(0)));
        calls.add(new Named("busiest(1000001)", x -> x.busiest(1000001)));
        calls.add(new Named("count(-1)", x -> x.count(-1)));
        calls.add(new Named("count(4)", x -> x.count(4)));
        calls.addAll(callsOnGate(-1));
        calls.addAll(callsOnGate(4));
        calls.addAll(callsOnLetter(-1));
        calls.addAll(callsOnLetter(200));
        calls.add(new Named("twice(0)", x -> x.twice(0)));
        calls.add(new Named("letter(0, 6)", x -> x.letter(0, 6)));
        addWrongCallsOfGates(calls);
        return calls;
    }

    private static void addWrongCallsOfGates(List<Named> calls) {
        calls.add(new Named("admit(0, 0)", x -> x.admit(0, 0)));
        calls.add(new Named("admit(0, 1001)", x -> x.admit(0, 1001)));
        calls.add(new Named("admit(3, 1)", x -> x.admit(3, 1)));
        calls.add(new Named("plead(0, 0)", x -> x.plead(0, 0)));
        calls.add(new Named("plead(0, 1000001)", x -> x.plead(0, 1000001)));
        calls.add(new Named("plead(1, 1)", x -> x.plead(1, 1)));
        calls.add(new Named("plead(3, 1)", x -> x.plead(3, 1)));
        calls.add(new Named("back(0, 0, 0)", x -> x.back(0, 0, 0)));
        calls.add(new Named("back(0, 0, -1)", x -> x.back(0, 0, -1)));
        calls.add(new Named("back(0, 0, 1000000)", x -> x.back(0, 0, 1000000)));
        calls.add(new Named("back(0, 9, 1)", x -> x.back(0, 9, 1)));
        calls.add(new Named("back(1, 0, 1)", x -> x.back(1, 0, 1)));
        calls.add(new Named("back(3, 0, 1)", x -> x.back(3, 0, 1)));
        calls.add(new Named("crash(3)", x -> x.crash(3)));
        calls.add(new Named("about(0, -1)", x -> x.about(0, -1)));
        calls.add(new Named("about(0, 3)", x -> x.about(0, 3)));
        calls.add(new Named("has(0, 0, -1)", x -> x.has(0, 0, -1)));
        calls.add(new Named("has(0, 0, 3)", x -> x.has(0, 0, 3)));
    }
}
