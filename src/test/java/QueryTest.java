/** Promises 50 to 58: queries over tickets and capacity, and the two plans. */
public final class QueryTest {
    private static final int NONE = VirtualQueue.NONE;
    private static final int NO_WINDOW = VirtualQueue.NO_WINDOW;

    public static void main(String[] args) {
        expectedReturns();
        expiredPart();
        capacityLeft();
        peakSlot();
        usage();
        bestFinish();
        bestOrderTies();
        planIsRefused();
        plansChangeNothing();
        served();
        servedPacking();
        servedLimits();
        Checks.end();
    }

    private static void expectedReturns() {
        VirtualQueue q = Checks.park("ride 20 50 3 0 99;ride 20 50 3 0 143;tier 5 144 0 0;party 0 2;party 0 3;party 0 4;extension 9;");
        q.issue(0, 0, 1);
        q.issue(1, 0, 3);
        q.issue(2, 1, 143);
        int[] due = {0, 2, 2, 5, 3, 3, 0};
        for (int slot = 0; slot < due.length; slot++) {
            Checks.due("P50 slot " + slot, q.expectedReturns(0, slot), due[slot]);
        }
        Checks.due("P50 the other ride", q.expectedReturns(1, 143), 4);
        Checks.due("P50 the other ride", q.expectedReturns(1, 142), 0);
        q.advance(1);
        q.breakDown(0);
        q.advance(2);
        Checks.due("P50 extended", q.expectedReturns(0, 5), 5);
        q.repair(0);
        q.redeem(0);
        Checks.due("P50 only ACTIVE ones", q.expectedReturns(0, 4), 3);
        Checks.due("P50 past slots too", q.expectedReturns(0, 2), 0);
        q.cancel(1);
        Checks.due("P50 only ACTIVE ones", q.expectedReturns(0, 4), 0);
        Checks.noIndex("P50", q, () -> q.expectedReturns(2, 0));
        Checks.noIndex("P50", q, () -> q.expectedReturns(-1, 0));
        Checks.noIndex("P50 the ride is checked first", q, () -> q.expectedReturns(2, 144));
        Checks.noArgument("P50", q, () -> q.expectedReturns(0, 144));
        Checks.noArgument("P50", q, () -> q.expectedReturns(0, -1));
    }

    private static void expiredPart() {
        VirtualQueue q = Checks.park("ride 20 100 1 0 99;ride 20 50 1 0 99;tier 5 144 0 0;party 0 2;party 0 3;party 0 4;party 0 5;extension 0;");
        Checks.due("P51 none", Checks.result(() -> q.expiredPart(0)), "ArithmeticException");
        q.issue(0, 0, 0);
        q.issue(1, 0, 0);
        q.issue(2, 0, 0);
        q.issue(3, 1, 0);
        q.cancel(2);
        Checks.due("P51 neither ACTIVE nor CANCELLED", Checks.result(() -> q.expiredPart(0)), "ArithmeticException");
        q.redeem(0);
        Checks.due("P51 only used ones", q.expiredPart(0), 0.0);
        q.breakDown(1);
        q.advance(1);
        Checks.due("P51", q.expiredPart(0), 0.5);
        Checks.due("P51 not OPEN", Checks.result(() -> q.expiredPart(1)), "ArithmeticException");
        q.redeemOpen(3, 0);
        Checks.due("P51 by the ride of the ticket", q.expiredPart(0), 0.5);
        Checks.due("P51 by the ride of the ticket", q.expiredPart(1), 0.0);
        q.issue(2, 0, 1);
        q.advance(1);
        Checks.due("P51", q.expiredPart(0), 2.0 / 3);
        Checks.noIndex("P51", q, () -> q.expiredPart(2));
        Checks.noIndex("P51", q, () -> q.expiredPart(-1));
    }

    private static void capacityLeft() {
        VirtualQueue q = Checks.park("ride 20 50 2 10 19;tier 5 144 0 0;party 0 2;party 0 3;");
        Checks.due("P52 all", q.capacityLeft(0), 100);
        q.issue(0, 0, 0);
        q.issue(1, 0, 15);
        Checks.due("P52 charged", q.capacityLeft(0), 95);
        q.advance(11);
        Checks.due("P52 from now on", q.capacityLeft(0), 87);
        q.breakDown(0);
        Checks.due("P52 also if it is down", q.capacityLeft(0), 87);
        q.advance(8);
        Checks.due("P52 the last slot", q.capacityLeft(0), 10);
        q.advance(1);
        Checks.due("P52 no slot", q.capacityLeft(0), 0);
        q.advance(124);
        Checks.due("P52 the day is over", q.capacityLeft(0), 0);
        Checks.noIndex("P52", q, () -> q.capacityLeft(1));
        Checks.noIndex("P52", q, () -> q.capacityLeft(-1));
    }

    private static void peakSlot() {
        VirtualQueue q = Checks.park("ride 20 50 2 0 143;ride 20 50 2 0 143;tier 5 144 0 0;party 0 2;party 0 3;party 0 2;party 0 3;");
        Checks.due("P53 none", q.peakSlot(0), NONE);
        q.issue(0, 0, 143);
        Checks.due("P53", q.peakSlot(0), 143);
        q.issue(1, 0, 30);
        Checks.due("P53 the greatest", q.peakSlot(0), 30);
        q.issue(3, 0, 20);
        Checks.due("P53 the earliest", q.peakSlot(0), 20);
        q.issue(2, 0, 30);
        Checks.due("P53 the sum", q.peakSlot(0), 30);
        Checks.due("P53 the other ride", q.peakSlot(1), NONE);
        q.advance(100);
        Checks.due("P53 past slots too", q.peakSlot(0), 30);
        Checks.noIndex("P53", q, () -> q.peakSlot(2));
        Checks.noIndex("P53", q, () -> q.peakSlot(-1));
        VirtualQueue c = Checks.park("ride 20 50 2 0 143;tier 5 144 0 0;party 0 2;");
        c.issue(0, 0, 0);
        Checks.due("P53 slot 0", c.peakSlot(0), 0);
        c.cancel(0);
        Checks.due("P53 cancelled", c.peakSlot(0), NONE);
    }

    private static void usage() {
        VirtualQueue day = Checks.park("ride 20 50 2 0 143;tier 5 144 0 0;party 0 9;");
        day.issue(0, 0, 0);
        Checks.due("P54 the whole day", day.usage(0), 9.0 / 1440);
        Checks.due("P52 the whole day", day.capacityLeft(0), 1431);
        VirtualQueue q = Checks.park("ride 20 50 2 10 19;ride 1 99 1 0 143;tier 5 144 0 0;party 0 2;party 0 3;");
        Checks.due("P54 none", q.usage(0), 0.0);
        Checks.due("P54 nothing planned", Checks.result(() -> q.usage(1)), "ArithmeticException");
        q.issue(0, 0, 0);
        q.issue(1, 0, 0);
        Checks.due("P54", q.usage(0), 0.05);
        q.cancel(1);
        Checks.due("P54 cancelled", q.usage(0), 0.02);
        q.advance(50);
        Checks.due("P54 past slots too", q.usage(0), 0.02);
        q.setShare(0, 5);
        Checks.due("P54 beyond what is planned", q.usage(0), 0.2);
        q.setShare(0, 0);
        Checks.due("P54 nothing planned any more", Checks.result(() -> q.usage(0)), "ArithmeticException");
        Checks.noIndex("P54", q, () -> q.usage(2));
        Checks.noIndex("P54", q, () -> q.usage(-1));
    }

    private static String order(VirtualQueue q, int party, int rides) {
        StringBuilder all = new StringBuilder();
        for (int k = 0; q.bestOrder(party, rides, k) != NONE; k++) {
            all.append(q.bestOrder(party, rides, k)).append(' ');
        }
        return all.toString();
    }

    private static void bestFinish() {
        // ride 0 opens late, ride 1 closes early, ride 2 is always there
        VirtualQueue q = Checks.park("ride 20 50 3 10 143;ride 20 50 4 0 2;ride 20 50 2 0 143;ride 3 100 2 0 143;ride 20 50 1 143 143;"
                + "tier 1 1 48 0;party 0 5;party 0 2;");
        Checks.due("P55 one", q.bestFinish(0, 1), 12);
        Checks.due("P55 one", q.bestFinish(0, 2), 3);
        Checks.due("P55 two", q.bestFinish(0, 3), 12);
        Checks.due("P56 two", order(q, 0, 3), "1 0 ");
        // 2 (0-1), 1 (2-5), 0 (10-12) ends as early as 1 (0-3), 2 (4-5), 0, which is smaller
        Checks.due("P55 three", q.bestFinish(0, 7), 12);
        Checks.due("P56 three", order(q, 0, 7), "1 2 0 ");
        Checks.due("P55 no room", q.bestFinish(0, 8), NO_WINDOW);
        Checks.due("P56 no room", order(q, 0, 8), "");
        Checks.due("P55 no room for one of them", q.bestFinish(0, 9), NO_WINDOW);
        Checks.due("P55 enough room", q.bestFinish(1, 8), 1);
        Checks.due("P55 the last slot", q.bestFinish(1, 31), 143);
        Checks.due("P56 the last slot", order(q, 1, 31), "1 0 2 3 4 ");
        q.advance(2);
        Checks.due("P55 from now on", q.bestFinish(0, 7), 12);
        Checks.due("P56 from now on", order(q, 0, 7), "1 2 0 ");
        q.breakDown(1);
        Checks.due("P55 also if it is down", q.bestFinish(0, 2), 5);
        q.advance(1);
        Checks.due("P55 ride 1 is closed", q.bestFinish(0, 7), NO_WINDOW);
        Checks.due("P56 ride 1 is closed", q.bestOrder(0, 7, 0), NONE);
        // ACTIVE tickets block, also that for a ride of the plan; limit and pause do not matter
        q.issue(0, 2, 3);
        Checks.due("P55 blocked", q.bestFinish(0, 4), 6);
        q.advance(141);
        Checks.due("P55 the day is over", q.bestFinish(0, 1), NO_WINDOW);
        VirtualQueue exact = Checks.park("ride 4 100 2 0 143;ride 5 100 2 0 143;tier 1 1 48 0;party 0 5;");
        Checks.due("P56 a plan of its own", exact.bestOrder(0, 2, 0), 1);
        Checks.due("P55 just enough room", exact.bestFinish(0, 2), 1);
        Checks.due("P55 too little room", exact.bestFinish(0, 1), NO_WINDOW);
        VirtualQueue end = Checks.park("ride 20 50 24 143 143;ride 20 50 24 130 143;tier 1 1 48 0;party 0 5;");
        Checks.due("P55 beyond 143", end.bestFinish(0, 1), 166);
        Checks.due("P55 too late for the second", end.bestFinish(0, 3), NO_WINDOW);
    }

    private static void bestOrderTies() {
        VirtualQueue q = Checks.park("ride 20 50 2 0 143;".repeat(6) + "ride 20 50 2 8 143;" + "tier 5 144 0 0;party 0 5;party 0 10;");
        Checks.due("P55 ties", q.bestFinish(0, 31), 9);
        Checks.due("P56 smallest", order(q, 0, 31), "0 1 2 3 4 ");
        Checks.due("P55 ties", q.bestFinish(0, 62), 9);
        Checks.due("P56 smallest", order(q, 0, 62), "1 2 3 4 5 ");
        Checks.due("P55 6 last", q.bestFinish(0, 64 + 15), 9);
        Checks.due("P56 6 last", order(q, 0, 64 + 15), "0 1 2 3 6 ");
        // party 1 takes all of ride 1 in 0 and of ride 0 in 4
        q.issue(1, 1, 0);
        q.issue(1, 0, 4);
        Checks.due("P55", q.bestFinish(0, 7), 5);
        Checks.due("P56", order(q, 0, 7), "0 1 2 ");
        q.issue(1, 2, 2);
        Checks.due("P55 the first slot that fits", q.ticketStart(2), 2);
        Checks.due("P55", q.bestFinish(0, 7), 5);
        Checks.due("P56", order(q, 0, 7), "0 1 2 ");
        Checks.due("P56 index", q.bestOrder(0, 7, 2), 2);
        Checks.due("P56 index", q.bestOrder(0, 7, 3), NONE);
        Checks.due("P56 index", q.bestOrder(0, 7, -1), NONE);
        Checks.due("P56 index", q.bestOrder(0, 7, Integer.MAX_VALUE), NONE);
        Checks.due("P56 index", q.bestOrder(0, 7, Integer.MIN_VALUE), NONE);
        // own tickets block: 1-2 leaves only 0 before it, so all start at 3
        VirtualQueue own = Checks.park("ride 20 50 2 0 143;ride 20 50 3 0 143;ride 20 50 1 0 143;tier 5 144 0 0;party 0 5;");
        own.issue(0, 0, 1);
        Checks.due("P55", own.bestFinish(0, 6), 5);
        Checks.due("P56 the short one first", order(own, 0, 6), "2 1 ");
    }

    private static void planIsRefused() {
        VirtualQueue q = Checks.park("ride 20 50 2 0 143;".repeat(7) + "tier 5 144 0 0;party 0 5;");
        for (int party : new int[] {1, -1}) {
            Checks.noIndex("P55", q, () -> q.bestFinish(party, 1));
            Checks.noIndex("P56", q, () -> q.bestOrder(party, 1, 0));
            Checks.noIndex("P55 the party is checked first", q, () -> q.bestFinish(party, 0));
            Checks.noIndex("P56 the party is checked first", q, () -> q.bestOrder(party, 0, 0));
        }
        for (int rides : new int[] {0, 128, 129, 256, -1, Integer.MIN_VALUE, 63, 127}) {
            Checks.noArgument("P55 " + rides, q, () -> q.bestFinish(0, rides));
            Checks.noArgument("P56 " + rides, q, () -> q.bestOrder(0, rides, 0));
            Checks.noArgument("P56 " + rides, q, () -> q.bestOrder(0, rides, 9));
        }
        VirtualQueue eight = Checks.park("ride 20 50 2 0 143;".repeat(8) + "tier 5 144 0 0;party 0 5;");
        Checks.due("P55 the eighth ride", eight.bestFinish(0, 128), 1);
        Checks.noArgument("P55 a ninth ride", eight, () -> eight.bestFinish(0, 256));
    }

    private static void plansChangeNothing() {
        VirtualQueue q = Checks.park("ride 20 50 2 0 143;".repeat(3) + "tier 5 144 0 0;party 0 5;party 0 6;");
        q.issue(0, 0, 0);
        q.joinWaitlist(1, 0);
        Checks.refused("P55 issues nothing", q, () -> q.bestFinish(0, 6), 5);
        Checks.refused("P56 issues nothing", q, () -> q.bestOrder(0, 6, 1), 2);
        Checks.refused("P57 issues nothing", q, () -> q.mostServed(0), 1);
        Checks.refused("P58 issues nothing", q, () -> q.servedSet(0), 1);
    }

    private static void served() {
        VirtualQueue q = Checks.park("ride 10 100 1 2 3;tier 1 144 9 0;tier 1 2 9 1;tier 1 1 9 2;"
                + "party 0 6;party 0 6;party 1 4;party 1 5;party 2 1;party 0 12;");
        Checks.due("P57 nobody", q.mostServed(0), 0);
        Checks.due("P58 nobody", q.servedSet(0), 0);
        for (int party = 0; party < 5; party++) {
            q.joinWaitlist(party, 0);
        }
        // slots 2 and 3 have 10 places each; tier 1 gets slot 2 only, tier 2 none: 6 + 4 and 6
        Checks.due("P57", q.mostServed(0), 3);
        Checks.due("P58", q.servedSet(0), 1 + 2 + 4);
        q.advance(1);
        // now slot 2 is in reach of all, slot 3 of all but the last: 6 + 4 and 6 + 1; with 5 there would be 21 persons
        Checks.due("P57", q.mostServed(0), 4);
        Checks.due("P58 the smallest mask", q.servedSet(0), 1 + 2 + 4 + 16);
        q.breakDown(0);
        Checks.due("P57 also if it is down", q.mostServed(0), 4);
        q.advance(2);
        // only slot 3 is left: of 6, 6, 4, 5, 1 the three smallest make 10
        Checks.due("P57", q.mostServed(0), 3);
        Checks.due("P58", q.servedSet(0), 4 + 8 + 16);
        q.advance(1);
        Checks.due("P57 after its last slot", q.mostServed(0), 0);
        q.advance(140);
        Checks.due("P57 the day is over", q.mostServed(0), 0);
        Checks.due("P58 the day is over", q.servedSet(0), 0);
        Checks.noIndex("P57", q, () -> q.mostServed(1));
        Checks.noIndex("P57", q, () -> q.mostServed(-1));
        Checks.noIndex("P58", q, () -> q.servedSet(1));
        Checks.noIndex("P58", q, () -> q.servedSet(-1));
    }

    /** Sizes that no simple rule packs: 7 + 5, 6 + 3 + 3, 4 + 4 + 4 fill three slots of 12. */
    private static void servedPacking() {
        VirtualQueue q = Checks.park("ride 12 100 1 0 2;tier 1 144 9 0;party 0 4;party 0 3;party 0 6;party 0 4;party 0 7;party 0 3;party 0 5;party 0 4;");
        for (int party = 0; party < 8; party++) {
            q.joinWaitlist(party, 0);
        }
        Checks.due("P57 all", q.mostServed(0), 8);
        Checks.due("P58 all", q.servedSet(0), 255);
        q.addParty(0, 1);
        q.issue(8, 0, 1);
        // one place less: one party stays away; without the last one (4), 7 + 5 and 6 + 3 + 3 and 4 + 4 fit
        Checks.due("P57 one less", q.mostServed(0), 7);
        Checks.due("P58 one less", q.servedSet(0), 127);
        q.advance(1);
        // 11 and 12 places: 4 + 3 + 4 and 3 + 5 + 4, the only set of six with at most 23 persons
        Checks.due("P57 two slots", q.mostServed(0), 6);
        Checks.due("P58 two slots", q.servedSet(0), 1 + 2 + 8 + 32 + 64 + 128);
    }

    private static void servedLimits() {
        VirtualQueue q = Checks.park("ride 5 100 1 0 143;tier 1 144 9 0;tier 1 144 9 1;" + "party 0 6;".repeat(4) + "party 1 1;".repeat(6));
        for (int party = 9; party >= 0; party--) {
            q.joinWaitlist(party, 0);
        }
        // the list: 3 2 1 0 (too large), then 9 8 7 6 and, beyond the first eight, 5 4
        Checks.due("P57 the first eight", q.mostServed(0), 4);
        Checks.due("P58 the first eight", q.servedSet(0), 0xF0);
        VirtualQueue tie = Checks.park("ride 5 100 1 0 0;tier 1 144 9 0;party 0 5;party 0 4;party 0 3;");
        for (int party = 0; party < 3; party++) {
            tie.joinWaitlist(party, 0);
        }
        Checks.due("P57 a tie", tie.mostServed(0), 1);
        Checks.due("P58 a tie", tie.servedSet(0), 1);
    }
}
