/** The sentences of "Terms" about letters, what is taken and received of them, and what they do. */
final class LetterTerms extends Desks {
    private LetterTerms() {
    }

    static void all() {
        poolOrder();
        numbersFromOne();
        takenIfTheNext();
        grantTakenIfTheNext();
        receiptOfNothing();
        for (int number = 0; number <= 3; number++) {
            receivedUpTo(number);
            grantsReceivedUpTo(number);
        }
        lateReceipt();
        downIsNothing();
        for (int windows = 0; windows <= 3; windows++) {
            pleaForAKeptWindow(windows);
            returnForAKeptWindow(windows);
            grantForAKeptWindow(windows);
        }
        aheadOfTheDesk();
        grantedOrAllThatAreThere();
        pleasAreAdded();
        theRuleWhenItIsTaken();
    }

    // "LETTERS lie in a POOL, in the order in which they were put there"
    private static void poolOrder() {
        QuotaDesk x = new QuotaDesk();
        x.plead(2, 5);
        x.plead(0, 6);
        x.plead(1, 7);
        x.plead(0, 8);
        int[][] due = {{0, 2, 1, 0, 5, 0}, {0, 0, 1, 0, 6, 0}, {0, 1, 1, 0, 7, 0}, {0, 0, 2, 0, 8, 0}};
        for (int i = 0; i < due.length; i++) {
            dueLetter("in order", x, i, due[i]);
        }
        x.deliver(1);
        dueLetter("one left, the next moved up", x, 1, due[2]);
        dueLetter("and the last", x, 2, due[3]);
        dueLetter("the grant behind them", x, 3, 2, 0, 1, 0, 6, 0);
        dueLetter("and the receipt", x, 4, 3, 0, 1, 0, 0, 0);
    }

    // "Of each gate those from it are numbered 1, 2, .. and those to it likewise." "(receipts are not numbered"
    private static void numbersFromOne() {
        QuotaDesk x = new QuotaDesk();
        for (int k = 1; k <= 3; k++) {
            x.plead(0, 5);
            dueLetter("from gate 0", x, 0, 0, 0, k);
            x.deliver(0);
            dueLetter("to gate 0", x, 0, 2, 0, k);
            x.deliverAll(3);
        }
        x.back(0, 0, 1);
        dueLetter("a return is numbered with pleas", x, 0, 1, 0, 4);
        x.lose(0);
        x.plead(0, 5);
        dueLetter("also behind one that was lost", x, 0, 0, 0, 5);
        x.lose(0);
        x.plead(1, 5);
        dueLetter("gate 1 has numbers of its own", x, 0, 0, 1, 1);
        x.deliver(0);
        dueLetter("both ways", x, 0, 2, 1, 1);
    }

    // "A letter that comes is TAKEN if its number is the next one behind the latest that was taken from there"
    private static void takenIfTheNext() {
        QuotaDesk x = new QuotaDesk();
        x.rule(1);
        pleadOften(x, 0, 4);
        Check.due("none taken: 2 is nothing", x.deliver(1), 0);
        Check.due("none taken: 1 is taken", x.deliver(0), 1);
        x.resend(0);
        int at = x.count(0) - 4;
        dueLetter("number 1 again", x, at, 0, 0, 1);
        Check.due("1 taken: 1 is nothing", x.deliver(at), 0);
        Check.due("1 taken: 3 is nothing", x.deliver(at + 1), 0);
        Check.due("1 taken: 4 is nothing", x.deliver(at + 1), 0);
        Check.due("1 taken: 2 is taken", x.deliver(at), 1);
        Check.due("another gate does not count", x.count(3), 1);
        x.plead(1, 1);
        Check.due("2 taken: 1 of another gate is taken", deliverLast(x), 1);
    }

    private static void grantTakenIfTheNext() {
        QuotaDesk x = new QuotaDesk();
        for (int k = 1; k <= 3; k++) {
            x.plead(0, k);
        }
        x.deliverAll(3);
        dueLetter("number 3", x, 4, 2, 0, 3, 0, 3, 0);
        Check.due("none taken: 3 is nothing", x.deliver(4), 0);
        Check.due("none taken: 2 is nothing", x.deliver(2), 0);
        x.twice(0);
        Check.due("none taken: 1 is taken", x.deliver(0), 1);
        Check.due("a share by that", x.has(0, 0, 0), 1);
        Check.due("1 taken: 1 is nothing", x.deliver(x.count(0) - 2), 0);
        Check.due("no more by that", x.has(0, 0, 0), 1);
    }

    // "In any case a RECEIPT goes back: the number of the latest that was taken": 0 as long as none was taken.
    private static void receiptOfNothing() {
        QuotaDesk x = new QuotaDesk();
        x.rule(1);
        x.plead(0, 1);
        x.plead(0, 1);
        x.deliver(1);
        dueLetter("none was taken", x, 1, 3, 0, 0, 0, 0, 0);
        Check.due("the receipt comes", x.deliver(1), 2);
        Check.due("and nothing is received by it", x.resend(0), 2);
        x.lose(1);
        x.deliver(0);
        dueLetter("1 was taken", x, 1, 3, 0, 1, 0, 0, 0);
        QuotaDesk y = new QuotaDesk();
        y.plead(0, 1);
        y.plead(0, 1);
        y.deliverAll(2);
        y.deliver(2);
        dueLetter("to the desk: none was taken", y, 3, 4, 0, 0, 0, 0, 0);
        Check.due("it comes", y.deliver(3), 2);
        Check.due("and nothing is received by it", y.resend(0), 4);
    }

    // "by one, all letters up to that number are RECEIVED"
    private static void receivedUpTo(int number) {
        QuotaDesk x = new QuotaDesk();
        x.rule(1);
        pleadOften(x, 0, 3);
        x.twice(1);
        x.deliver(3);
        x.deliverAll(3);
        dueLetter("receipt " + number, x, number, 3, 0, number);
        Check.due("it comes", x.deliver(number), 2);
        loseAll(x);
        Check.due("received up to " + number, x.resend(0), 3 - number);
        if (number < 3) {
            dueLetter("the first one that is not", x, 0, 0, 0, number + 1);
        }
    }

    private static void grantsReceivedUpTo(int number) {
        QuotaDesk x = new QuotaDesk();
        pleadOften(x, 0, 3);
        x.deliverAll(3);
        deliverLast(x);
        x.lose(1);
        x.lose(2);
        x.twice(1);
        x.deliver(3);
        x.deliverAll(3);
        dueLetter("receipt " + number, x, number, 4, 0, number);
        Check.due("it comes", x.deliver(number), 2);
        loseAll(x);
        Check.due("received up to " + number, x.resend(0), 3 - number);
        if (number < 3) {
            dueLetter("the first one that is not", x, 0, 2, 0, number + 1);
        }
    }

    private static void lateReceipt() {
        QuotaDesk x = new QuotaDesk();
        x.rule(1);
        pleadOften(x, 0, 3);
        x.deliverAll(3);
        Check.due("receipt 2", x.deliver(1), 2);
        Check.due("receipt 1 comes behind it", x.deliver(0), 2);
        Check.due("3 alone is not received", x.resend(0), 1);
        dueLetter("it is", x, 1, 0, 0, 3);
        Check.due("receipt 3", x.deliver(0), 2);
        Check.due("none", x.resend(0), 0);
    }

    // "What comes to a gate or desk that is down is nothing (a receipt, too), and there is no receipt."
    private static void downIsNothing() {
        QuotaDesk x = new QuotaDesk();
        fetch(x, 0, 20);
        x.plead(0, 3);
        x.back(0, 0, 4);
        x.desk(true);
        Check.due("a plea", x.deliver(0), 0);
        Check.due("a return", x.deliver(0), 0);
        Check.due("no receipts", x.count(0), 0);
        x.desk(false);
        Check.due("neither was received", x.resend(0), 2);
        Check.due("nor taken: a plea", x.deliver(0), 1);
        Check.due("nor taken: a return", x.deliver(0), 1);
        x.crash(0);
        dueLetter("a grant", x, 0, 2, 0, 2, 0, 3, 0);
        Check.due("a grant", x.deliver(0), 0);
        Check.due("a receipt to a gate", x.deliver(0), 0);
        Check.due("a receipt to a gate", x.deliver(0), 0);
        Check.due("no receipts", x.count(0), 0);
        x.restart(0);
        Check.due("two, and a grant", x.resend(0), 3);
        Check.due("the grant was not taken", deliverLast(x), 1);
        x.desk(true);
        Check.due("a receipt to a desk", deliverLast(x), 0);
        loseAll(x);
        Check.due("the grant was not received", x.resend(0), 3);
    }

    // "A plea that is taken, for a window that the desk keeps": so many windows later.
    private static void pleaForAKeptWindow(int windows) {
        QuotaDesk x = made(100, 10, 0, 1);
        x.plead(0, 30);
        x.twice(0);
        x.pass(10 * windows);
        Check.due("rule 0: taken", x.deliver(0), 1);
        Check.due("rule 0: granted", x.there(0), windows == 0 || windows == 1 ? 70 : 0);
        Check.due("rule 0: letters", x.count(0), windows <= 1 ? 3 : 2);
        QuotaDesk y = made(100, 10, 0, 1);
        y.rule(1);
        y.plead(0, 30);
        y.pass(10 * windows);
        Check.due("rule 1: taken", y.deliver(0), 1);
        Check.due("rule 1: it waits", y.count(3), windows <= 1 ? 1 : 0);
        Check.due("rule 1: granted", y.split(), windows <= 1 ? 30 : 0);
    }

    // "A return that is taken gives its units back (if the window is kept)."
    private static void returnForAKeptWindow(int windows) {
        QuotaDesk x = made(100, 10, 0, 1);
        fetch(x, 0, 30);
        x.back(0, 0, 10);
        x.pass(10 * windows);
        Check.due("it is taken", x.deliver(0), 1);
        for (int k = 0; k <= windows + 1; k++) {
            int kept = Math.abs(k - windows) <= 1 ? 100 : 0;
            Check.due("the desk has of " + k, x.there(k), k == 0 && windows <= 1 ? 80 : kept);
        }
        dueLetter("a receipt in any case", x, 0, 3, 0, 2);
    }

    // "A grant that is taken adds to the share (if the window is kept)."
    private static void grantForAKeptWindow(int windows) {
        QuotaDesk x = made(100, 10, 0, 1);
        x.plead(0, 30);
        x.deliver(0);
        x.pass(10 * windows);
        Check.due("it is taken", x.deliver(0), 1);
        for (int k = 0; k <= windows + 1; k++) {
            Check.due("the share of " + k, x.has(0, k, 0), k == 0 && windows <= 1 ? 30 : 0);
        }
        dueLetter("a receipt in any case", x, 1, 4, 0, 1);
    }

    /** The desk keeps the window behind its own too, and a gate ahead of it drops one that the desk keeps. */
    private static void aheadOfTheDesk() {
        QuotaDesk x = made(100, 10, 4, 1);
        x.plead(0, 30);
        x.error(0, 4);
        x.pass(2);
        x.plead(0, 20);
        dueLetter("for window 1, at true time 6", x, 1, 0, 0, 2, 1, 20, 0);
        x.pass(10);
        Check.due("the gate is in window 2", x.about(0, 1), 2);
        x.plead(0, 10);
        x.deliverAll(3);
        int[] due = {70, 80, 90, 0};
        for (int k = 0; k < due.length; k++) {
            Check.due("the desk, in window 1, has of " + k, x.there(k), due[k]);
        }
        x.deliverAll(1000);
        dueUnits("the gate does not keep window 0", x, 0, 0, 0, 0);
        dueUnits("the one before", x, 1, 20, 0, 0);
        dueUnits("its own", x, 2, 10, 0, 0);
        x.back(0, 2, 10);
        x.back(0, 1, 20);
        x.deliverAll(1000);
        Check.due("given back to the window behind the desk's", x.there(2), 100);
        Check.due("and to its own", x.there(1), 100);
    }

    // "by RULE 0 as many units as it wants, or all that are there, are granted at once (none: no letter)"
    private static void grantedOrAllThatAreThere() {
        for (int n : new int[] {1, 99, 100, 101, 1000000}) {
            QuotaDesk x = new QuotaDesk();
            x.plead(0, n);
            x.deliver(0);
            dueLetter("100 are there, " + n + " wanted", x, 0, 2, 0, 1, 0, Math.min(n, 100), 0);
            Check.due("less by them", x.there(0), 100 - Math.min(n, 100));
        }
        QuotaDesk x = new QuotaDesk();
        fetch(x, 1, 100);
        x.plead(0, 1);
        Check.due("none is there: taken", x.deliver(0), 1);
        Check.due("none is there: one letter", x.count(0), 1);
        dueLetter("the receipt", x, 0, 3, 0, 1, 0, 0, 0);
        Check.due("and nothing waits", x.count(3), 0);
        x.back(1, 0, 1);
        x.deliverAll(9);
        x.plead(0, 2);
        x.deliver(0);
        dueLetter("one is there: the first grant", x, 0, 2, 0, 1, 0, 1, 0);
    }

    // "by other rules it waits, with those of the same gate and window added"
    private static void pleasAreAdded() {
        for (int r = 1; r <= 2; r++) {
            QuotaDesk x = made(1000000, 10, 0, 2);
            x.rule(r);
            x.plead(0, 1);
            x.deliverAll(9);
            Check.due("one waits", x.count(3), 1);
            Check.due("nothing is granted yet", x.there(0), 1000000);
            x.plead(0, 1);
            x.deliverAll(9);
            Check.due("still one", x.count(3), 1);
            x.plead(1, 1);
            x.deliverAll(9);
            Check.due("another gate: two", x.count(3), 2);
            x.pass(10);
            x.plead(0, 1000000);
            x.plead(0, 1);
            x.deliverAll(9);
            Check.due("another window: three", x.count(3), 3);
            Check.due("all they want, or all that are there", x.split(), 3 + 1000000);
            dueShares("window 0", x, 0, 2, 1);
            dueShares("window 1", x, 1, 1000000, 0);
        }
    }

    // "(The rule is that when it is taken.)"
    private static void theRuleWhenItIsTaken() {
        for (int sent = 0; sent <= 2; sent++) {
            for (int taken = 0; taken <= 2; taken++) {
                QuotaDesk x = new QuotaDesk();
                x.rule(sent);
                x.plead(0, 5);
                x.rule(taken);
                x.deliver(0);
                Check.due("sent by " + sent + ", taken by " + taken + ": waits", x.count(3), taken == 0 ? 0 : 1);
                Check.due("sent by " + sent + ", taken by " + taken + ": there", x.there(0), taken == 0 ? 95 : 100);
                x.rule(0);
                Check.due("a later rule grants nothing by itself", x.there(0), taken == 0 ? 95 : 100);
            }
        }
    }
}
