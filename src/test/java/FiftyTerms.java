/** "When 50 letters of a gate one way are not received, no more are sent that way", and what follows from it. */
final class FiftyTerms extends Desks {
    private FiftyTerms() {
    }

    static void all() {
        fiftyPleas();
        fiftyReturns();
        fiftyOfBothSorts();
        fiftyAreOpenedByReceipts();
        for (int before = 48; before <= 50; before++) {
            fiftyGrantsAtOnce(before);
            fiftyGrantsInASplit(before);
            fiftyGrantsByUse(before);
            fiftyAskedAnewForEachWindow(before);
        }
        fiftyOneWayOnly();
    }

    // "When 50 letters of a gate one way are not received, no more are sent that way"
    private static void fiftyPleas() {
        QuotaDesk x = new QuotaDesk();
        pleadOften(x, 1, 49);
        x.plead(1, 1);
        Check.due("the 50th is sent", x.count(0), 50);
        Check.throwsDue("the 51st is not", SHUT, () -> x.plead(1, 1));
        Check.due("nothing was sent", x.count(0), 50);
        x.plead(0, 1);
        x.plead(2, 1);
        Check.due("other gates are open", x.count(0), 52);
    }

    private static void fiftyReturns() {
        QuotaDesk x = new QuotaDesk();
        fetch(x, 0, 60);
        for (int k = 1; k <= 50; k++) {
            x.back(0, 0, 1);
        }
        Check.due("50 are sent", x.count(0), 50);
        Check.throwsDue("the 51st is not", SHUT, () -> x.back(0, 0, 1));
        Check.due("its share is not less by it", x.has(0, 0, 0), 10);
    }

    private static void fiftyOfBothSorts() {
        QuotaDesk x = new QuotaDesk();
        fetch(x, 0, 60);
        pleadOften(x, 0, 49);
        x.back(0, 0, 1);
        Check.throwsDue("49 pleas and a return: no plea", SHUT, () -> x.plead(0, 1));
        Check.throwsDue("49 pleas and a return: no return", SHUT, () -> x.back(0, 0, 1));
    }

    private static void fiftyAreOpenedByReceipts() {
        QuotaDesk x = new QuotaDesk();
        x.rule(1);
        pleadOften(x, 0, 50);
        loseAll(x);
        Check.throwsDue("lost, but not received", SHUT, () -> x.plead(0, 1));
        x.resend(0);
        x.deliver(1);
        Check.due("a receipt of none", deliverLast(x), 2);
        Check.throwsDue("opens nothing", SHUT, () -> x.plead(0, 1));
        x.deliver(0);
        Check.throwsDue("taken, but not received", SHUT, () -> x.plead(0, 1));
        Check.due("a receipt of 1", deliverLast(x), 2);
        x.plead(0, 9);
        dueLetter("opens for one, number 51", x, x.count(0) - 1, 0, 0, 51, 0, 9, 0);
        Check.throwsDue("and not for two", SHUT, () -> x.plead(0, 1));
        loseAll(x);
        Check.due("50 again", x.resend(0), 50);
        dueLetter("from 2 on", x, 0, 0, 0, 2, 0, 1, 0);
        dueLetter("to 51", x, 49, 0, 0, 51, 0, 9, 0);
    }

    // "nothing is granted to it then"
    private static void fiftyGrantsAtOnce(int before) {
        QuotaDesk x = grantsOnTheWay(made(100, 10, 0, 2), before);
        x.plead(0, 7);
        Check.due("taken behind " + before, x.deliver(0), 1);
        Check.due("there behind " + before, x.there(0), 100 - before - (before < 50 ? 7 : 0));
        Check.due("letters behind " + before, x.count(0), before < 50 ? 2 : 1);
        Check.due("and it does not wait", x.count(3), 0);
        x.plead(1, 7);
        deliverLast(x);
        Check.due("the other gate is open", x.there(0), 100 - before - (before < 50 ? 7 : 0) - 7);
    }

    // "(in a SPLIT it wants nothing"
    private static void fiftyGrantsInASplit(int before) {
        QuotaDesk x = grantsOnTheWay(made(100, 10, 0, 2), before);
        waiting(x, 1, 40, 40);
        int there = 100 - before;
        int other = before == 50 ? 40 : there / 2;
        int own = before == 50 ? 0 : there - there / 2;
        Check.due("two wait", x.count(3), 2);
        Check.due("split behind " + before, x.split(), own + other);
        Check.due("letters behind " + before, x.count(0), before == 50 ? 1 : 2);
        Check.due("nothing waits then", x.count(3), 0);
        dueShares("behind " + before, x, 0, 0, other);
        Check.due("sent, though lost ones lie before it", x.resend(0), before + (own > 0 ? 1 : 0));
        dueLetter("the last one", x, x.count(0) - 1, 2, 0, before + (own > 0 ? 1 : 0), 0, own > 0 ? own : 1);
    }

    /** What a gate told does not count where it wants nothing. */
    private static void fiftyGrantsByUse(int before) {
        QuotaDesk x = grantsOnTheWay(spentBefore(100, 30, 10, 0), before);
        waiting(x, 2, 90, 90, 90);
        int left = 100 - before;
        Check.due("all behind " + before, x.split(), left);
        // 52 and 51 by 3 : 1 leave 13 for gate 1; alone it gets all 50.
        x.deliverAll(1000);
        Check.due("by use behind " + before + ": gate 1", x.has(1, 1, 0), before == 50 ? 50 : 13);
        Check.due("by use behind " + before + ": gate 2", x.has(2, 1, 0), 0);
    }

    // "which is asked anew for each window)"
    private static void fiftyAskedAnewForEachWindow(int before) {
        QuotaDesk x = grantsOnTheWay(made(100, 10, 0, 2), before);
        waiting(x, 1, 3, 5);
        x.pass(10);
        waiting(x, 1, 4, 6);
        Check.due("two windows wait", x.count(3), 4);
        int first = before < 50 ? 3 : 0;
        int second = before < 49 ? 4 : 0;
        Check.due("behind " + before, x.split(), first + second + 11);
        Check.due("window 0 behind " + before, x.there(0), 100 - before - first - 5);
        Check.due("window 1 behind " + before, x.there(1), 100 - second - 6);
    }

    private static void fiftyOneWayOnly() {
        QuotaDesk x = new QuotaDesk();
        pleadOften(x, 0, 50);
        x.deliver(0);
        dueLetter("50 from a gate: it is granted to all the same", x, 49, 2, 0, 1, 0, 1, 0);
        QuotaDesk y = grantsOnTheWay(new QuotaDesk(), 50);
        y.plead(0, 1);
        Check.due("50 to a gate: it pleads all the same", y.count(0), 1);
    }
}
