/** The edges of the two plans: P55 to P58. */
final class PlanEdges extends Edges {
    static void all() {
        bestFinish();
        windows();
        ties();
        masks();
        bestOrder();
        mostServed();
        slotsAndSizes();
        nothingElse();
        servedSet();
    }

    private static VirtualQueue later(VirtualQueue q, int slots) {
        if (slots > 0) {
            q.advance(slots);
        }
        return q;
    }

    /** The end and the order of a plan. */
    private static String plan(VirtualQueue q, int party, int rides) {
        StringBuilder all = new StringBuilder();
        all.append(q.bestFinish(party, rides)).append(':');
        for (int k = 0; q.bestOrder(party, rides, k) != NONE; k++) {
            all.append(' ').append(q.bestOrder(party, rides, k));
        }
        return all.toString();
    }

    private static void bestFinish() {
        says("P55", "Plans rides for a party: finds an order of some rides such that the last window ends as early as possible,");
        String guests = "tier 1 1 48 0;party 0 5;";
        VirtualQueue q = Checks.park("ride 20 50 3 10 143;ride 20 50 4 0 2;ride 20 50 2 0 143;" + guests);
        due("one ride", plan(q, 0, 2), "3: 1");
        due("what closes early comes first", plan(q, 0, 3), "12: 1 0");
        due("three", plan(q, 0, 7), "12: 1 2 0");
        VirtualQueue only = Checks.park("ride 20 50 1 1 1;ride 20 50 1 0 0;ride 20 50 1 3 3;ride 20 50 1 2 2;ride 20 50 1 4 4;" + guests);
        due("the only order of five", plan(only, 0, 31), "4: 1 0 3 2 4");
        VirtualQueue shorter = Checks.park("ride 20 50 5 0 143;ride 20 50 1 0 143;ride 20 50 1 5 5;" + guests);
        due("the longest one just before slot 5", plan(shorter, 0, 7), "6: 0 2 1");
        // ride 1 has room in slot 0 and from slot 3 on: 0-1 and 3, or 0 and 1-2
        VirtualQueue sooner = Checks.park("ride 20 50 2 0 143;ride 5 100 1 0 143;tier 5 144 0 0;party 0 5;party 0 5;party 0 5;");
        sooner.issue(1, 1, 1);
        sooner.issue(2, 1, 2);
        due("a later order that ends one slot sooner", plan(sooner, 0, 3), "2: 1 0");
        sooner.cancel(1);
        due("now both end alike", plan(sooner, 0, 3), "2: 0 1");
        says("P55", "Returns the end of the last window;");
        due("least", Checks.park("ride 20 50 1 0 143;" + guests).bestFinish(0, 1), 0);
        due("beyond 143", Checks.park("ride 20 50 24 143 143;" + guests).bestFinish(0, 1), 166);
        says("P55", "NO_WINDOW if there is no such order.");
        VirtualQueue none = Checks.park("ride 20 50 1 143 143;ride 20 50 1 143 143;ride 20 50 1 142 142;ride 20 50 2 142 142;ride 4 100 1 0 143;" + guests);
        due("both in slot 143", plan(none, 0, 3), "-4:");
        due("142, then 143", plan(none, 0, 5), "143: 2 0");
        due("a window to 143, then no slot is left", plan(none, 0, 9), "-4:");
        due("no room in any slot", plan(none, 0, 16), "-4:");
        due("no room for one of two", plan(none, 0, 20), "-4:");
        stays("the day is over", Park.OVER, x -> x.bestFinish(0, 1), NO_WINDOW);
        due("behind the last slot", later(Checks.park("ride 20 50 1 0 5;" + guests), 6).bestFinish(0, 1), NO_WINDOW);
        due("in the last slot", later(Checks.park("ride 20 50 1 0 5;" + guests), 5).bestFinish(0, 1), 5);
        says("P55", "Nothing is issued.");
        stays("one ride", Park.BUSY, x -> x.bestFinish(0, 1), 6);
        stays("three rides", Park.BUSY, x -> x.bestFinish(0, 7), 10);
        says("P55", "`party`: index of a party");
        stays("the first", Park.FULL, x -> x.bestFinish(0, 128), 3);
        stays("the last", Park.FULL, x -> x.bestFinish(49, 128), 3);
        says("P55", "Throws `IndexOutOfBoundsException` if there is no such party");
        noSuchParty((x, party) -> x.bestFinish(party, 1));
        noIndex("the party comes before the rides", Park.BUSY, x -> x.bestFinish(5, 0));
        noIndex("the party comes before the rides", Park.BUSY, x -> x.bestFinish(-1, -1));
    }

    private static void windows() {
        says("P55", "if for each ride in this order a window is taken: the first slot s as in TICKETS, but without horizon,"
                + " limit, pause and other checks");
        // limit 1, horizon 1 and pause 48: party 0 has a ticket for ride 0 in slot 0
        VirtualQueue q = Checks.park("ride 6 100 1 0 9;ride 6 100 1 9 9;tier 1 1 48 0;party 0 4;party 0 3;");
        q.issue(0, 0, 0);
        due("no horizon", plan(q, 0, 2), "9: 1");
        due("no limit, no pause, no duplicate", plan(q, 0, 1), "1: 0");
        stays("though there are 150 tickets", Park.FULL, x -> x.bestFinish(0, 8), 3);
        due("just the remaining capacity", plan(Checks.park("ride 5 100 1 0 9;tier 1 1 0 0;party 0 5;"), 0, 1), "0: 0");
        due("one place less", plan(Checks.park("ride 4 100 1 0 9;tier 1 1 0 0;party 0 5;"), 0, 1), "-4:");
        due("slot 0 has 2 places left, so it is slot 1", plan(q, 1, 1), "1: 0");
        due("the ride's last slot", plan(later(q, 9), 1, 1), "9: 0");
        due("behind it", plan(later(q, 1), 1, 1), "-4:");
        says("P55", "(also for rides that are down),");
        stays("down", Park.BUSY, x -> x.bestFinish(0, 8), 4);
        stays("one of two is down", Park.BUSY, x -> x.bestFinish(0, 9), 7);
        says("P55", "from the slot behind the window before it on");
        VirtualQueue lengths = Checks.park("ride 20 50 1 0 143;ride 20 50 2 0 143;ride 20 50 24 0 143;tier 1 1 48 0;party 0 4;");
        due("1 and 2 slots", plan(lengths, 0, 3), "2: 0 1");
        due("1, 2 and 24 slots", plan(lengths, 0, 7), "26: 0 1 2");
        VirtualQueue close = Checks.park("ride 20 50 2 0 143;ride 20 50 1 1 1;ride 20 50 1 2 2;tier 1 1 48 0;party 0 4;");
        due("slot 2 is right behind 0-1", plan(close, 0, 5), "2: 0 2");
        due("slot 1 is not behind 0-1", plan(close, 0, 3), "3: 1 0");
        says("P55", "(for the first ride from the present slot on).");
        due("slot 0", plan(lengths, 0, 2), "1: 1");
        due("slot 77", plan(later(lengths, 77), 0, 2), "78: 1");
        due("slot 143", plan(later(lengths, 66), 0, 2), "144: 1");
        due("slot 143, and then one more", plan(lengths, 0, 3), "-4:");
        says("P55", "ACTIVE tickets of the party block windows as in TICKETS.");
        VirtualQueue own = Checks.park("ride 20 50 5 0 143;ride 20 50 3 0 143;ride 20 50 1 0 143;tier 5 144 0 0;party 0 4;party 0 4;extension 0;");
        own.issue(0, 0, 3);
        due("3 slots in front of 3-7", plan(own, 0, 2), "2: 1");
        due("one more does not fit in there", plan(own, 0, 6), "8: 1 2");
        due("5 slots only behind it", plan(own, 0, 1), "12: 0");
        due("another party", plan(own, 1, 1), "4: 0");
        own.moveTicket(0, 2);
        due("3 slots do not fit in front of 2-6", plan(own, 0, 2), "9: 1");
        own.advance(2);
        own.breakDown(0);
        own.advance(1);
        due("OPEN does not block", plan(own, 0, 2), "5: 1");
        VirtualQueue cancelled = Park.SMALL.make();
        cancelled.issue(0, 0, 0);
        due("ACTIVE", plan(cancelled, 0, 1), "3: 0");
        cancelled.cancel(0);
        due("CANCELLED does not block", plan(cancelled, 0, 1), "1: 0");
    }

    private static void ties() {
        says("P55", "On a tie the lexicographically smallest order is taken.");
        VirtualQueue same = Checks.park("ride 20 50 2 0 143;".repeat(8) + "tier 1 1 48 0;party 0 4;");
        due("the first five", plan(same, 0, 31), "9: 0 1 2 3 4");
        due("the last five", plan(same, 0, 248), "9: 3 4 5 6 7");
        due("others", plan(same, 0, 128 + 32 + 4 + 1), "7: 0 2 5 7");
        VirtualQueue late = Checks.park("ride 20 50 1 9 143;ride 20 50 1 0 143;ride 20 50 1 0 143;tier 1 1 48 0;party 0 4;");
        due("the late one last, the others by number", plan(late, 0, 7), "9: 1 2 0");
        VirtualQueue ends = Checks.park("ride 20 50 2 0 143;ride 20 50 1 0 143;ride 20 50 1 20 20;tier 1 1 48 0;party 0 4;");
        due("one ride decides, the others by number", plan(ends, 0, 7), "20: 0 1 2");
    }

    private static void masks() {
        says("P55", "`rides`: bit mask of the rides (bit k for ride k), at least 1 and at most 5 rides");
        VirtualQueue q = Checks.park("ride 20 50 1 0 143;".repeat(8) + "tier 1 1 48 0;party 0 4;");
        for (int ride = 0; ride < 8; ride++) {
            due("ride " + ride + " alone", plan(q, 0, 1 << ride), "0: " + ride);
        }
        due("five", plan(q, 0, 0b11010101), "4: 0 2 4 6 7");
        says("P55", "Throws `IllegalArgumentException` if rides contains other bits, or no ride, or more than 5");
        for (int rides : new int[] {16, 17, 31, 256, -1, MAX, MIN, MIN + 1}) {
            noArgument("other bits " + rides, Park.BUSY, x -> x.bestFinish(0, rides));
        }
        noArgument("a ninth ride", Park.FULL, x -> x.bestFinish(0, 256));
        noArgument("a ninth ride and another", Park.FULL, x -> x.bestFinish(0, 257));
        noArgument("bit 31", Park.FULL, x -> x.bestFinish(0, MIN));
        noArgument("no ride", Park.BUSY, x -> x.bestFinish(0, 0));
        for (int rides : new int[] {63, 252, 127, 255, 0b10110111}) {
            noArgument("more than 5: " + rides, Park.FULL, x -> x.bestFinish(0, rides));
        }
        stays("just 5", Park.FULL, x -> x.bestFinish(0, 248), 7);
        stays("all 4", Park.BUSY, x -> x.bestFinish(0, 15), 11);
        noArgument("a party, but no rides at all", () -> Checks.park("tier 1 1 0 0;party 0 1;"), x -> x.bestFinish(0, 1));
        noArgument("a party, but no rides at all", () -> Checks.park("tier 1 1 0 0;party 0 1;"), x -> x.bestFinish(0, 0));
        noArgument("when the day is over", Park.OVER, x -> x.bestFinish(0, 16));
    }

    private static void bestOrder() {
        says("P56", "Returns a ride of the order of bestFinish().");
        VirtualQueue q = Checks.park("ride 20 50 1 1 1;ride 20 50 1 0 0;ride 20 50 1 3 3;ride 20 50 1 2 2;ride 20 50 1 4 4;tier 1 1 48 0;party 0 5;");
        int[] order = {1, 0, 3, 2, 4};
        for (int k = 0; k < 5; k++) {
            due("ride " + k, q.bestOrder(0, 31, k), order[k]);
        }
        due("without bestFinish() before it", Park.SMALL.make().bestOrder(0, 1, 0), 0);
        stays("nothing changes", Park.BUSY, x -> x.bestOrder(0, 7, 0), 0);
        says("P56", "`party`: index of a party");
        stays("the last", Park.FULL, x -> x.bestOrder(49, 128, 0), 7);
        says("P56", "`rides`: as for bestFinish()");
        stays("one ride", Park.FULL, x -> x.bestOrder(0, 128, 0), 7);
        stays("five rides", Park.FULL, x -> x.bestOrder(0, 248, 4), 7);
        says("P56", "`index`: from 0");
        stays("the first", Park.FULL, x -> x.bestOrder(0, 248, 0), 3);
        says("P56", "Returns the ride;");
        stays("the second", Park.FULL, x -> x.bestOrder(0, 248, 1), 4);
        says("P56", "NONE if there is no such order or index.");
        stays("no such order", Park.OVER, x -> x.bestOrder(0, 1, 0), NONE);
        due("no such order", Checks.park("ride 4 100 1 0 0;tier 1 1 0 0;party 0 5;").bestOrder(0, 1, 0), NONE);
        for (int count = 1; count <= 5; count++) {
            int rides = (1 << count) - 1;
            int behind = count;
            stays("index " + count + " of " + count, Park.FULL, x -> x.bestOrder(0, rides, behind), NONE);
        }
        for (int index : new int[] {-1, MAX, MIN}) {
            stays("index " + index, Park.BUSY, x -> x.bestOrder(0, 7, index), NONE);
        }
        says("P56", "Throws `IndexOutOfBoundsException` if there is no such party");
        noSuchParty((x, party) -> x.bestOrder(party, 1, 0));
        noIndex("the party comes before the rides", Park.BUSY, x -> x.bestOrder(5, 0, 0));
        noIndex("the party comes before the rides", Park.BUSY, x -> x.bestOrder(-1, 16, -1));
        says("P56", "Throws `IllegalArgumentException` as for bestFinish()");
        for (int rides : new int[] {0, 16, 17, 256, -1, MAX, MIN}) {
            noArgument("rides " + rides, Park.BUSY, x -> x.bestOrder(0, rides, 0));
            noArgument("rides " + rides + " and a wrong index", Park.BUSY, x -> x.bestOrder(0, rides, -1));
        }
        for (int rides : new int[] {63, 252, 255, 256}) {
            noArgument("rides " + rides, Park.FULL, x -> x.bestOrder(0, rides, 0));
        }
    }

    /** Both promises on a waitlist of one ride: the number and the set. */
    private static String served(VirtualQueue q) {
        return q.mostServed(0) + ": " + q.servedSet(0);
    }

    /** A ride and parties that all wait for it, in their order. */
    private static VirtualQueue waiting(String ride, int horizon, int... sizes) {
        StringBuilder parties = new StringBuilder();
        for (int size : sizes) {
            parties.append("party 0 ").append(size).append(';');
        }
        VirtualQueue q = Checks.park(ride + "tier 1 " + horizon + " 48 0;" + parties);
        for (int party = 0; party < sizes.length; party++) {
            q.joinWaitlist(party, 0);
        }
        return q;
    }

    private static void mostServed() {
        says("P57", "Finds how many of the first 8 parties on the waitlist of a ride");
        String wide = "ride 200 100 1 0 143;";
        due("8", served(waiting(wide, 144, 1, 1, 1, 1, 1, 1, 1, 1)), "8: 255");
        due("9", served(waiting(wide, 144, 1, 1, 1, 1, 1, 1, 1, 1, 1)), "8: 255");
        due("the ninth alone would fit", served(waiting("ride 1 100 1 0 143;", 144, 2, 2, 2, 2, 2, 2, 2, 2, 1)), "0: 0");
        due("the eighth alone fits", served(waiting("ride 1 100 1 0 143;", 144, 2, 2, 2, 2, 2, 2, 2, 1, 1)), "1: 128");
        stays("50", Park.FULL, q -> q.mostServed(7), 8);
        says("P57", "(all, if there are fewer)");
        due("7", served(waiting(wide, 144, 1, 1, 1, 1, 1, 1, 1)), "7: 127");
        due("1", served(waiting(wide, 144, 12)), "1: 1");
        due("none", served(waiting(wide, 144)), "0: 0");
        stays("none", Park.SMALL, q -> q.mostServed(0), 0);
        says("P57", "`ride`: index of a ride");
        stays("the first", Park.BUSY, q -> q.mostServed(0), 2);
        stays("the last", Park.BUSY, q -> q.mostServed(3), 1);
        says("P57", "Returns the greatest number of parties.");
        due("small ones rather than large ones", served(waiting("ride 12 100 1 0 0;", 144, 12, 6, 6)), "2: 6");
        due("packed", served(waiting("ride 12 100 1 0 2;", 144, 4, 3, 6, 4, 7, 3, 5, 4)), "8: 255");
        says("P57", "Throws `IndexOutOfBoundsException` if there is no such ride");
        noSuchRide(VirtualQueue::mostServed);
    }

    private static void slotsAndSizes() {
        says("P57", "could get windows at once: each of them a slot that is not before the present slot,");
        VirtualQueue q = waiting("ride 6 100 1 0 2;", 144, 6, 6, 6);
        due("slot 0", served(q), "3: 7");
        due("slot 1", served(later(q, 1)), "2: 3");
        due("slot 2", served(later(q, 1)), "1: 1");
        says("P57", "not after the last slot of the ride,");
        due("behind it", served(later(q, 1)), "0: 0");
        due("the day is over", served(later(q, 141)), "0: 0");
        due("the only slot is 143", served(waiting("ride 6 100 1 143 143;", 144, 6, 6)), "1: 1");
        says("P57", "and not after the present slot plus the horizon of its tier,");
        due("at the horizon", served(waiting("ride 6 100 1 5 5;", 5, 6)), "1: 1");
        due("behind it", served(waiting("ride 6 100 1 5 5;", 4, 6)), "0: 0");
        due("a slot later", served(later(waiting("ride 6 100 1 5 5;", 4, 6), 1)), "1: 1");
        due("two slots within it", served(waiting("ride 6 100 1 0 143;", 1, 6, 6, 6)), "2: 3");
        VirtualQueue two = Checks.park("ride 6 100 1 0 143;tier 1 1 0 0;tier 1 2 0 0;party 1 6;party 0 6;party 0 6;party 1 6;");
        for (int party = 0; party < 4; party++) {
            two.joinWaitlist(party, 0);
        }
        due("who may come later leaves the early slots to others", served(two), "3: 7");
        says("P57", "such that in no slot the sizes of the parties that get it exceed the remaining capacity.");
        due("just as many", served(waiting("ride 12 100 1 0 0;", 144, 5, 7)), "2: 3");
        due("one too many", served(waiting("ride 11 100 1 0 0;", 144, 5, 7)), "1: 1");
        due("eight just fit", served(waiting("ride 96 100 1 0 0;", 144, 12, 12, 12, 12, 12, 12, 12, 12)), "8: 255");
        due("one place less", served(waiting("ride 95 100 1 0 0;", 144, 12, 12, 12, 12, 12, 12, 12, 12)), "7: 127");
        due("nothing is planned", served(waiting("ride 200 0 1 0 143;", 144, 1)), "0: 0");
        VirtualQueue charged = Checks.park("ride 12 100 1 0 0;tier 1 144 0 0;party 0 5;party 0 7;party 0 8;");
        charged.issue(0, 0, 0);
        charged.joinWaitlist(2, 0);
        due("8 beside 5", served(charged), "0: 0");
        charged.joinWaitlist(1, 0);
        due("7 beside 5", served(charged), "1: 2");
    }

    private static void nothingElse() {
        says("P57", "Nothing else is checked,");
        VirtualQueue down = waiting("ride 6 100 1 0 0;", 144, 6);
        down.breakDown(0);
        due("the ride is down", served(down), "1: 1");
        VirtualQueue limit = Checks.park("ride 6 100 1 0 0;ride 6 100 1 0 0;tier 1 144 48 0;party 0 6;");
        limit.issue(0, 1, 0);
        limit.joinWaitlist(0, 0);
        due("at its limit, in its pause, and in that slot on another ride", served(limit), "1: 1");
        stays("150 tickets", Park.FULL, q -> q.mostServed(7), 8);
        says("P57", "and nothing is issued.");
        stays("two could be", Park.BUSY, q -> q.mostServed(0), 2);
        due("the waitlist is as before", Checks.waitlist(down, 0), "0 ");
    }

    private static void servedSet() {
        says("P58", "Returns a set of parties for mostServed().");
        stays("two parties", Park.BUSY, q -> q.servedSet(0), 3);
        stays("nobody waits", Park.SMALL, q -> q.servedSet(0), 0);
        stays("the day is over", Park.OVER, q -> q.servedSet(0), 0);
        says("P58", "`ride`: index of a ride");
        stays("the last", Park.FULL, q -> q.servedSet(7), 255);
        stays("the first", Park.FULL, q -> q.servedSet(0), 0);
        says("P58", "Returns the set with the greatest number of parties as a bit mask (bit k for the k-th party on the waitlist, from 0);");
        String one = "ride 3 100 1 0 0;";
        for (int k = 0; k < 8; k++) {
            int[] sizes = {12, 12, 12, 12, 12, 12, 12, 12};
            sizes[k] = 3;
            due("only position " + k, served(waiting(one, 144, sizes)), "1: " + (1 << k));
        }
        VirtualQueue ranks = Checks.park(one + "tier 1 144 0 5;tier 1 144 0 0;party 0 3;party 1 12;");
        ranks.joinWaitlist(0, 0);
        ranks.joinWaitlist(1, 0);
        due("by the waitlist, not by the party", served(ranks), "1: 2");
        due("none fits", served(waiting(one, 144, 4, 5)), "0: 0");
        says("P58", "on a tie the smallest mask.");
        due("one of three", served(waiting(one, 144, 3, 2, 3)), "1: 1");
        due("one of three, the first is too large", served(waiting(one, 144, 4, 3, 3)), "1: 2");
        due("two of three", served(waiting("ride 6 100 1 0 0;", 144, 3, 3, 3)), "2: 3");
        due("2 and 3, or 1 and 3", served(waiting("ride 6 100 1 0 0;", 144, 4, 5, 2, 1)), "2: 5");
        due("seven of eight", served(waiting("ride 7 100 1 0 0;", 144, 1, 1, 1, 1, 1, 1, 1, 1)), "7: 127");
        says("P58", "Throws `IndexOutOfBoundsException` if there is no such ride");
        noSuchRide(VirtualQueue::servedSet);
    }
}
