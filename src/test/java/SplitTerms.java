/** The sentences of "Terms" about a SPLIT that name a boundary. */
final class SplitTerms extends Desks {
    private SplitTerms() {
    }

    static void all() {
        nothingWaits();
        fromTheLeastWindowOn();
        for (int there = 0; there <= 9; there++) {
            equalOneAfterAnother(there, 0);
            equalOneAfterAnother(there, 1);
        }
        equalOfMany();
        equalBySplitNotByShare();
        latestPleaTells();
        noUseIsEqual();
        roundedDown();
        notMoreThanItWants();
        remaindersTheGreatestFirst();
        sameRemainders();
        anewUntilNothingIsLeft();
        notMoreThanItWantsStill();
        anewWithoutUse();
        noneWantsMore();
        noneIsThereByUse();
        productsAreLong();
        useOfThoseThatWantOnly();
        grantsByGates();
        nothingWaitsThen();
    }

    private static void dueSplit(String what, QuotaDesk x, int window, int... due) {
        int sum = 0;
        for (int n : due) {
            sum += n;
        }
        Check.due(what + ": granted", x.split(), sum);
        dueShares(what, x, window, due);
    }

    private static void nothingWaits() {
        for (int r = 0; r <= 2; r++) {
            QuotaDesk x = new QuotaDesk();
            x.rule(r);
            Check.due("no pleas, rule " + r, x.split(), 0);
            Check.due("no letters", x.count(0), 0);
            Check.due("all is there", x.there(0), 100);
        }
    }

    // "A SPLIT goes over the windows with pleas that wait, from the least on"
    private static void fromTheLeastWindowOn() {
        QuotaDesk x = made(100, 10, 4, 2);
        x.rule(1);
        x.plead(0, 5);
        x.deliverAll(9);
        x.pass(9);
        x.plead(0, 6);
        x.error(1, 4);
        x.pass(3);
        x.plead(1, 7);
        x.deliverAll(9);
        Check.due("three windows", x.count(3), 3);
        Check.due("all three", x.split(), 18);
        dueLetter("the window before the desk's", x, 0, 2, 0, 1, 0, 5, 0);
        dueLetter("its own", x, 1, 2, 0, 2, 1, 6, 0);
        dueLetter("the one behind", x, 2, 2, 1, 1, 2, 7, 0);
        Check.due("no other letters", x.count(0), 3);
    }

    // "EQUAL: one unit after another goes to that gate, of those that have not all they want, which has least so far
    // (of several the least gate), until R units are given or none wants more": gates want 1, 2 and 4.
    private static void equalOneAfterAnother(int there, int r) {
        int[][] due = {{0, 0, 0}, {1, 0, 0}, {1, 1, 0}, {1, 1, 1}, {1, 2, 1}, {1, 2, 2}, {1, 2, 3}, {1, 2, 4},
            {1, 2, 4}, {1, 2, 4}};
        QuotaDesk x = made(10, 10, 0, 4);
        fetch(x, 3, 10 - there);
        waiting(x, 1, 1, 2, 4);
        x.rule(r);
        dueSplit(there + " are there, rule " + r, x, 0, due[there]);
        Check.due("what is left", x.there(0), Math.max(0, there - 7));
    }

    private static void equalOfMany() {
        dueSplit("8 gates, 7 units", waiting(made(7, 10, 0, 8), 1, 9, 9, 9, 9, 9, 9, 9, 9), 0, 1, 1, 1, 1, 1, 1, 1, 0);
        dueSplit("8 gates, 8 units", waiting(made(8, 10, 0, 8), 1, 9, 9, 9, 9, 9, 9, 9, 9), 0, 1, 1, 1, 1, 1, 1, 1, 1);
        dueSplit("8 gates, 9 units", waiting(made(9, 10, 0, 8), 1, 9, 9, 9, 9, 9, 9, 9, 9), 0, 2, 1, 1, 1, 1, 1, 1, 1);
        dueSplit("one gate", waiting(made(5, 10, 0, 1), 1, 9), 0, 5);
        dueSplit("one unit", waiting(made(1, 10, 0, 3), 1, 0, 9, 9), 0, 0, 1, 0);
        dueSplit("seven want one, one wants all", waiting(made(1000000, 10, 0, 8), 1, 1, 1, 1, 1, 1, 1, 1, 1000000), 0,
                1, 1, 1, 1, 1, 1, 1, 999993);
        dueSplit("one by one they have enough", waiting(made(1000000, 10, 0, 8), 1, 1, 2, 3, 4, 5, 6, 7, 1000000), 0,
                1, 2, 3, 4, 5, 6, 7, 999972);
        dueSplit("the most", waiting(made(1000000, 10, 0, 3), 1, 1000000, 1000000, 1), 0, 500000, 499999, 1);
    }

    private static void equalBySplitNotByShare() {
        QuotaDesk x = new QuotaDesk();
        fetch(x, 0, 91);
        waiting(x, 1, 9, 9);
        Check.due("all", x.split(), 9);
        dueShares("least so far is of this split", x, 0, 96, 4);
    }

    // "u(x) is what the latest plea of gate x that waits for this window told to be spent in the window before"
    private static void latestPleaTells() {
        QuotaDesk x = made(1000, 10, 0, 2);
        fetch(x, 0, 48);
        x.admit(0, 1);
        fetch(x, 1, 16);
        x.admit(1, 16);
        x.pass(10);
        x.rule(2);
        x.plead(0, 1000);
        x.deliverAll(9);
        x.crash(0);
        x.restart(0);
        x.plead(0, 1);
        x.plead(1, 1000);
        dueLetter("it tells 16 now, not 1", x, 0, 0, 0, 3, 1, 1, 16);
        x.deliverAll(9);
        dueSplit("the latest one tells", x, 1, 500, 500);
    }

    // "If U is 0: EQUAL, of what is left."
    private static void noUseIsEqual() {
        dueSplit("U is 0", waiting(spentBefore(5, 0, 0, 0), 2, 9, 9, 9), 1, 2, 2, 1);
        dueSplit("U is 1", waiting(spentBefore(5, 0, 1, 0), 2, 9, 9, 9), 1, 0, 5, 0);
        dueSplit("U is 2", waiting(spentBefore(5, 0, 1, 1), 2, 9, 9, 9), 1, 0, 3, 2);
    }

    // "Else each gets what is left times u(x) / U, rounded down"
    private static void roundedDown() {
        dueSplit("9 by 1 and 2: no remainders", waiting(spentBefore(9, 1, 2), 2, 9, 9), 1, 3, 6);
        dueSplit("10 by 1 and 2: 3 1/3 and 6 2/3", waiting(spentBefore(10, 1, 2), 2, 10, 10), 1, 3, 7);
        dueSplit("11 by 1 and 2: 3 2/3 and 7 1/3", waiting(spentBefore(11, 1, 2), 2, 11, 11), 1, 4, 7);
        dueSplit("12 by 1 and 2: no remainders", waiting(spentBefore(12, 1, 2), 2, 12, 12), 1, 4, 8);
    }

    // "but not more than it wants still": its part is 6 of 9.
    private static void notMoreThanItWants() {
        dueSplit("one less than its part", waiting(spentBefore(9, 1, 2), 2, 9, 5), 1, 4, 5);
        dueSplit("as much as its part", waiting(spentBefore(9, 1, 2), 2, 9, 6), 1, 3, 6);
        dueSplit("one more than its part", waiting(spentBefore(9, 1, 2), 2, 9, 7), 1, 3, 6);
        dueSplit("it wants none", waiting(spentBefore(9, 1, 2), 2, 9, 0), 1, 9, 0);
    }

    // "then of what is left behind that, one unit each goes to those that want more still, in the order of the
    // remainders of that division, the greatest first"
    private static void remaindersTheGreatestFirst() {
        dueSplit("8/7 16/7 32/7: the last has 4", waiting(spentBefore(8, 1, 2, 4), 2, 8, 8, 8), 1, 1, 2, 5);
        dueSplit("9/7 18/7 36/7: the second has 4", waiting(spentBefore(9, 1, 2, 4), 2, 9, 9, 9), 1, 1, 3, 5);
        dueSplit("10/7 20/7 40/7: 3, 6, 5, two units", waiting(spentBefore(10, 1, 2, 4), 2, 10, 10, 10), 1, 1, 3, 6);
        dueSplit("11/7 22/7 44/7: 4, 1, 2", waiting(spentBefore(11, 1, 2, 4), 2, 11, 11, 11), 1, 2, 3, 6);
        dueSplit("the greatest wants no more", waiting(spentBefore(9, 1, 2, 4), 2, 9, 2, 9), 1, 2, 2, 5);
        dueSplit("the greatest wants one more", waiting(spentBefore(9, 1, 2, 4), 2, 9, 3, 9), 1, 1, 3, 5);
    }

    // "(of several the least gate)"
    private static void sameRemainders() {
        dueSplit("one unit left", waiting(spentBefore(4, 1, 1, 1), 2, 9, 9, 9), 1, 2, 1, 1);
        dueSplit("two units left", waiting(spentBefore(5, 1, 1, 1), 2, 9, 9, 9), 1, 2, 2, 1);
        dueSplit("none left", waiting(spentBefore(6, 1, 1, 1), 2, 9, 9, 9), 1, 2, 2, 2);
        dueSplit("the least gate wants no more", waiting(spentBefore(4, 1, 1, 1), 2, 1, 9, 9), 1, 1, 2, 1);
    }

    // "as long as there is one; and so on anew, until nothing is left, or none wants more"
    private static void anewUntilNothingIsLeft() {
        // 100 by 5 : 1 : 1 gives 71 (it wants 20), 14 and 14, then one each; the 50 that are left go by 1 : 1.
        dueSplit("two rounds", waiting(spentBefore(100, 50, 10, 10), 2, 20, 90, 90), 1, 20, 40, 40);
        // 100 by 50 : 10 : 20 gives 62 (wants 10), 12 and 25, then one each; 51 by 1 : 2 are 17 and 34.
        dueSplit("two rounds, no remainders", waiting(spentBefore(100, 50, 10, 20), 2, 10, 90, 90), 1, 10, 30, 60);
        // 20 by 15 : 4 : 1 gives 15 (wants 1), 4 (wants 2) and 1, then one to gate 2; 16 are left for it.
        dueSplit("two are satisfied", waiting(spentBefore(20, 15, 4, 1), 2, 1, 2, 90), 1, 1, 2, 17);
    }

    /** Gates 1 and 2 have 15 each behind the first round; then 50 by 1 : 1 are 25 each. */
    private static void notMoreThanItWantsStill() {
        dueSplit("it wants 15 still", waiting(spentBefore(100, 50, 10, 10), 2, 20, 30, 90), 1, 20, 30, 50);
        dueSplit("it wants 24 still", waiting(spentBefore(100, 50, 10, 10), 2, 20, 39, 90), 1, 20, 39, 41);
        dueSplit("it wants 25 still", waiting(spentBefore(100, 50, 10, 10), 2, 20, 40, 90), 1, 20, 40, 40);
        dueSplit("it wants 26 still", waiting(spentBefore(100, 50, 10, 10), 2, 20, 41, 90), 1, 20, 40, 40);
    }

    private static void anewWithoutUse() {
        // Gate 0 gets all it wants by use; gates 1 and 2 get one each as remainders of 0, then EQUAL of what is left.
        dueSplit("then equal", waiting(spentBefore(10, 1, 0, 0), 2, 3, 9, 9), 1, 3, 4, 3);
        dueSplit("one unit behind the parts", waiting(spentBefore(4, 1, 0, 0), 2, 3, 9, 9), 1, 3, 1, 0);
        dueSplit("two units behind the parts", waiting(spentBefore(5, 1, 0, 0), 2, 3, 9, 9), 1, 3, 1, 1);
        dueSplit("three units behind the parts", waiting(spentBefore(6, 1, 0, 0), 2, 3, 9, 9), 1, 3, 2, 1);
    }

    private static void noneWantsMore() {
        QuotaDesk x = waiting(spentBefore(10, 1, 2, 0), 2, 2, 3, 4);
        dueSplit("one is left", x, 1, 2, 3, 4);
        Check.due("it stays", x.there(1), 1);
        dueSplit("as many as they want", waiting(spentBefore(9, 1, 2, 0), 2, 2, 3, 4), 1, 2, 3, 4);
        // 8 by 1 : 2 gives 2 and 5 (wants 3); gate 2 gets one, and then the two that are left.
        dueSplit("one too few", waiting(spentBefore(8, 1, 2, 0), 2, 2, 3, 4), 1, 2, 3, 3);
    }

    private static void noneIsThereByUse() {
        QuotaDesk x = spentBefore(10, 1, 2, 0);
        fetch(x, 2, 10);
        waiting(x, 2, 5, 5);
        Check.due("none is there", x.split(), 0);
        Check.due("no letters", x.count(0), 0);
        Check.due("nothing waits then", x.count(3), 0);
    }

    /** What is left times u goes beyond 31 and 32 bits. */
    private static void productsAreLong() {
        QuotaDesk x = waiting(spentBefore(1000000, 3000, 1000), 2, 1000000, 1000000);
        dueSplit("3,000,000,000", x, 1, 750000, 250000);
        x = waiting(spentBefore(1000000, 9000, 1000), 2, 1000000, 1000000);
        dueSplit("9,000,000,000", x, 1, 900000, 100000);
    }

    // "U their sum, over the gates that want more"
    private static void useOfThoseThatWantOnly() {
        dueSplit("who wants none does not count", waiting(spentBefore(50, 40, 1, 4), 2, 0, 50, 50), 1, 0, 10, 40);
    }

    // "Grants are sent, by gates, to those that got some"
    private static void grantsByGates() {
        QuotaDesk x = waiting(made(2, 10, 0, 4), 1, 0, 5, 5, 5);
        x.split();
        Check.due("two got some", x.count(0), 2);
        dueLetter("gate 1", x, 0, 2, 1, 1, 0, 1, 0);
        dueLetter("gate 2", x, 1, 2, 2, 1, 0, 1, 0);
        x = waiting(spentBefore(10, 1, 4, 0), 2, 9, 9, 9);
        x.split();
        Check.due("by use: two got some", x.count(0), 2);
        dueLetter("by gates, not by units", x, 0, 2, 0, 2, 1, 2, 0);
        dueLetter("then the next one", x, 1, 2, 1, 2, 1, 8, 0);
    }

    // "nothing waits then"
    private static void nothingWaitsThen() {
        for (int r = 1; r <= 2; r++) {
            QuotaDesk x = waiting(made(3, 10, 0, 2), r, 9, 9);
            Check.due("two wait", x.count(3), 2);
            Check.due("too little is there", x.split(), 3);
            Check.due("nothing waits", x.count(3), 0);
            x.deliverAll(99);
            x.back(0, 0, 1);
            x.deliverAll(99);
            Check.due("one is there again, for no one", x.split(), 0);
            waiting(x, r, 9);
            Check.due("a new plea", x.split(), 1);
        }
    }
}
