/** "LETTERS lie in a POOL, .. at most 200 (more are lost at once)": for each way in which a letter comes there. */
final class PoolTerms extends Desks {
    private PoolTerms() {
    }

    static void all() {
        for (int before = 198; before <= 200; before++) {
            pleas(before);
            returns(before);
            grantsAtOnce(before);
            receiptsToAGate(before);
            receiptsToTheDesk(before);
            grantsOfASplit(before);
            doubles(before);
            resent(before);
        }
    }

    /** Gates 0 to 3 have sent pleas of 1, and gates 4 to 7 have shares of 9; the pool holds so many letters. */
    private static QuotaDesk filled(int letters) {
        QuotaDesk x = made(1000, 10, 0, 8);
        for (int g = 4; g < 8; g++) {
            fetch(x, g, 9);
        }
        for (int k = 0; k < letters; k++) {
            x.plead(k / 50, 1);
        }
        return x;
    }

    private static void dueCount(String what, QuotaDesk x, int before, int put) {
        Check.due(what + " behind " + before, x.count(0), Math.min(200, before + put));
    }

    private static void pleas(int before) {
        QuotaDesk x = filled(before);
        x.plead(4, 5);
        dueCount("a plea", x, before, 1);
        x.plead(5, 6);
        dueCount("a second plea", x, before, 2);
        dueLetter("the first 198 stay", x, 197, 0, 3, 48, 0, 1, 0);
        if (before == 199) {
            dueLetter("the first plea is there, the second is lost", x, 199, 0, 4, 2, 0, 5, 0);
        }
        Check.due("a lost one was sent all the same", x.resend(5), 1);
    }

    private static void returns(int before) {
        QuotaDesk x = filled(before);
        x.back(4, 0, 5);
        dueCount("a return", x, before, 1);
        Check.due("the share is less, lost or not", x.has(4, 0, 0), 4);
        if (before < 200) {
            dueLetter("the return", x, before, 1, 4, 2, 0, 5, 0);
        }
        x.lose(0);
        x.lose(0);
        Check.due("it is not received", x.resend(4), 1);
        dueLetter("and can be sent again", x, x.count(0) - 1, 1, 4, 2, 0, 5, 0);
    }

    private static void grantsAtOnce(int before) {
        QuotaDesk x = filled(before);
        Check.due("a plea is taken", x.deliver(0), 1);
        dueCount("a grant and a receipt", x, before - 1, 2);
        dueLetter("the grant", x, before - 1, 2, 0, 1, 0, 1, 0);
        if (before < 200) {
            dueLetter("the receipt", x, before, 3, 0, 1, 0, 0, 0);
        }
        Check.due("granted in any case", x.there(0), 1000 - 36 - 1);
    }

    private static void receiptsToAGate(int before) {
        QuotaDesk x = filled(before);
        Check.due("2 is not the next one", x.deliver(1), 0);
        dueCount("a receipt", x, before - 1, 1);
        dueLetter("it is the last one", x, before - 1, 3, 0, 0, 0, 0, 0);
    }

    private static void receiptsToTheDesk(int before) {
        QuotaDesk x = filled(before);
        x.deliver(0);
        Check.due("the grant is taken", x.deliver(before - 1), 1);
        int last = x.count(0) - 1;
        dueLetter("its receipt", x, last, 4, 0, 1, 0, 0, 0);
        Check.due("letters", x.count(0), Math.min(200, before + 1));
    }

    private static void grantsOfASplit(int before) {
        QuotaDesk x = made(1000, 10, 0, 8);
        waiting(x, 1, 0, 0, 0, 0, 5, 6, 7);
        for (int k = 0; k < before; k++) {
            x.plead(k / 50, 1);
        }
        Check.due("all are granted, lost or not", x.split(), 18);
        dueCount("three grants", x, before, 3);
        Check.due("the desk has less by all", x.there(0), 1000 - 18);
        for (int k = before; k < 200; k++) {
            int nth = k - before;
            dueLetter("those that have room", x, k, 2, 4 + nth, 1, 0, 5 + nth, 0);
        }
        x.lose(0);
        Check.due("the last one is not received", x.resend(6), 1);
        dueLetter("and can be sent again", x, 199, 2, 6, 1, 0, 7, 0);
    }

    private static void doubles(int before) {
        QuotaDesk x = filled(before);
        if (before == 200) {
            Check.throwsDue("there are 200", WRONG, () -> x.twice(0));
        } else {
            x.twice(0);
            dueLetter("once more", x, before, 0, 0, 1, 0, 1, 0);
        }
        dueCount("a double", x, before, 1);
    }

    private static void resent(int before) {
        QuotaDesk x = filled(before - 2);
        x.plead(4, 5);
        x.plead(4, 6);
        Check.due("two there are", x.resend(4), 2);
        dueCount("two put again", x, before, 2);
        if (before < 200) {
            dueLetter("the first one first", x, before, 0, 4, 2, 0, 5, 0);
        }
        if (before < 199) {
            dueLetter("then the second", x, before + 1, 0, 4, 3, 0, 6, 0);
        }
    }
}
