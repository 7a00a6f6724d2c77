/** What several tests share: objects in a known state, and looks at them. */
abstract class Desks {
    static final Class<IndexOutOfBoundsException> NO_SUCH = IndexOutOfBoundsException.class;
    static final Class<IllegalArgumentException> WRONG = IllegalArgumentException.class;
    static final Class<IllegalStateException> DOWN = IllegalStateException.class;
    static final Class<UnsupportedOperationException> SHUT = UnsupportedOperationException.class;

    static QuotaDesk made(int l, int w, int e, int gates) {
        QuotaDesk x = new QuotaDesk();
        x.setup(l, w, e, gates);
        return x;
    }

    /** A gate pleads and gets, by rule 0, with nothing left in the pool. */
    static void fetch(QuotaDesk x, int gate, int n) {
        x.plead(gate, n);
        x.deliverAll(1000);
    }

    static void pleadOften(QuotaDesk x, int gate, int times) {
        for (int k = 0; k < times; k++) {
            x.plead(gate, 1);
        }
    }

    static void loseAll(QuotaDesk x) {
        while (x.count(0) > 0) {
            x.lose(0);
        }
    }

    static int deliverLast(QuotaDesk x) {
        return x.deliver(x.count(0) - 1);
    }

    /** Each gate's plea waits, where it wants some. */
    static QuotaDesk waiting(QuotaDesk x, int r, int... wants) {
        x.rule(r);
        for (int g = 0; g < wants.length; g++) {
            if (wants[g] > 0) {
                x.plead(g, wants[g]);
            }
        }
        x.deliverAll(1000);
        return x;
    }

    /** Each gate has spent so many in window 0 when window 1 begins. */
    static QuotaDesk spentBefore(int l, int... spent) {
        QuotaDesk x = made(l, 10, 0, spent.length);
        for (int g = 0; g < spent.length; g++) {
            if (spent[g] > 0) {
                fetch(x, g, spent[g]);
            }
            for (int rest = spent[g]; rest > 0; rest -= 1000) {
                x.admit(g, Math.min(1000, rest));
            }
        }
        x.pass(10);
        return x;
    }

    /** So many grants of one unit were sent to gate 0 and are not received, and nothing else is on its way. */
    static QuotaDesk grantsOnTheWay(QuotaDesk x, int n) {
        pleadOften(x, 0, n);
        x.deliverAll(n);
        if (n > 0) {
            deliverLast(x);
        }
        loseAll(x);
        return x;
    }

    static void dueLetter(String what, QuotaDesk x, int i, int... columns) {
        for (int k = 0; k < columns.length; k++) {
            Check.due(what + ": letter(" + i + ", " + k + ")", x.letter(i, k), columns[k]);
        }
    }

    /** Of gate 0 and a window. */
    static void dueUnits(String what, QuotaDesk x, int window, int share, int spent, int stored) {
        Check.due(what + ": share of " + window, x.has(0, window, 0), share);
        Check.due(what + ": spent of " + window, x.has(0, window, 1), spent);
        Check.due(what + ": stored of " + window, x.has(0, window, 2), stored);
    }

    static void dueShares(String what, QuotaDesk x, int window, int... shares) {
        x.deliverAll(1000);
        for (int g = 0; g < shares.length; g++) {
            Check.due(what + ": gate " + g, x.has(g, window, 0), shares[g]);
        }
    }
}
