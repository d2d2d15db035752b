/** The edges of the day and the park: TIME, PARK, P8 to P16. */
final class ParkEdges extends Edges {
    static void all() {
        time();
        counts();
        rides();
        plannedCapacity();
        tiersAndParties();
        countQueries();
        now();
        addParty();
        partyQueries();
        planned();
        remaining();
    }

    private static void time() {
        says("TIME", "A day has the slots 0 to 143.");
        VirtualQueue q = Checks.park("ride 10 100 1 0 143;tier 5 144 0 0;party 0 10;party 0 10;");
        due("slot 0 has capacity", q.remaining(0, 0), 10);
        due("slot 143 has capacity", q.remaining(0, 143), 10);
        due("a ticket in slot 0", q.ticketStart(q.issue(0, 0, 0)), 0);
        due("a ticket in slot 143", q.ticketStart(q.issue(1, 0, 143)), 143);
        q.joinStandby(0, 9);
        q.advance(1);
        due("slot 0 boards", q.boarded(0, false), 9);
        q.advance(142);
        q.joinStandby(0, 8);
        q.advance(1);
        due("slot 143 boards", q.boarded(0, false), 17);
        noArgument("no slot -1", Park.BUSY, x -> x.planned(0, -1));
        noArgument("no slot 144", Park.BUSY, x -> x.planned(0, 144));
        says("TIME", "The present slot is 0 at first;");
        due("of a new object", new VirtualQueue().now(), 0);
        due("of a park", Park.SMALL.make().now(), 0);
        says("TIME", "it is 144 when the day is over.");
        VirtualQueue day = Park.SMALL.make();
        day.advance(143);
        due("in the last slot", day.now(), 143);
        day.advance(1);
        due("behind the last slot", day.now(), 144);
        noArgument("there is no more slot", Park.OVER, x -> x.advance(1));
        noArgument("there is no more slot", Park.OVER, x -> x.runScript(1));
    }

    private static String rideTexts(int count) {
        StringBuilder text = new StringBuilder();
        for (int k = 0; k < count; k++) {
            text.append("ride ").append(10 + k).append(" 100 1 0 143;");
        }
        return text.toString();
    }

    private static void counts() {
        says("PARK", "There are at most 8 rides, 4 tiers and 50 parties,");
        String tiers = "tier 1 144 0 0;tier 2 144 0 0;tier 3 144 0 0;tier 4 144 0 0;";
        VirtualQueue q = Checks.park(rideTexts(8) + tiers + "party 3 5;".repeat(50));
        due("rides", q.rideCount(), 8);
        due("tiers", q.tierCount(), 4);
        due("parties", q.partyCount(), 50);
        due("a ninth ride", Checks.loadPark(q, rideTexts(9)), TEXT_ERROR);
        due("a fifth tier", Checks.loadPark(q, tiers + "tier 1 1 0 0;"), TEXT_ERROR);
        due("a 51st party", Checks.loadPark(q, "tier 1 1 0 0;" + "party 0 1;".repeat(51)), TEXT_ERROR);
        stays("a 51st party", Park.FULL, x -> x.addParty(0, 1), FULL);
        says("PARK", "each numbered from 0 in the order of the input text");
        for (int ride = 0; ride < 8; ride++) {
            due("ride " + ride, q.planned(ride, 0), 10 + ride);
        }
        VirtualQueue mixed = Checks.park("tier 1 9 0 0;party 0 7;ride 9 100 1 0 0;tier 1 9 0 0;party 1 8;ride 5 100 1 0 0;party 0 9;");
        due("ride 0", mixed.planned(0, 0), 9);
        due("ride 1", mixed.planned(1, 0), 5);
        due("party 0", mixed.partySize(0) + " " + mixed.partyTier(0), "7 0");
        due("party 1", mixed.partySize(1) + " " + mixed.partyTier(1), "8 1");
        due("party 2", mixed.partySize(2) + " " + mixed.partyTier(2), "9 0");
        says("PARK", "(further parties can be added).");
        due("the next number", mixed.addParty(1, 12), 3);
        due("party 3", mixed.partySize(3) + " " + mixed.partyTier(3), "12 1");
    }

    private static void rides() {
        says("PARK", "A ride has a capacity (persons per slot), a share (percent), a window length (slots), and its first and last slot.");
        VirtualQueue least = Checks.park("ride 1 0 1 0 0;tier 5 144 0 0;party 0 1;");
        least.joinStandby(0, 1);
        least.joinStandby(0, 1);
        due("share 0: no window", least.nextWindow(0, 0, 0), NO_WINDOW);
        least.setShare(0, 100);
        due("share 100: a window", least.nextWindow(0, 0, 0), 0);
        due("length 1", least.ticketEnd(least.issue(0, 0, 0)), 0);
        least.advance(2);
        due("capacity 1, and one slot", least.boarded(0, false), 1);
        VirtualQueue most = Checks.park("ride 200 100 24 143 143;tier 5 144 0 0;" + "party 0 10;".repeat(21));
        for (int party = 0; party < 20; party++) {
            due("capacity 200", most.issue(party, 0, 0), party);
        }
        due("no more", most.issue(20, 0, 0), NO_WINDOW);
        due("length 24", most.ticketStart(19) + "-" + most.ticketEnd(19), "143-166");
        says("PARK", "It is operating in these slots and those between, unless it is down.");
        String[] slots = {"0 0", "0 143", "143 143", "5 5", "5 7", "5 143"};
        for (String of : slots) {
            int first = Integer.parseInt(of.substring(0, of.indexOf(' ')));
            int last = Integer.parseInt(of.substring(of.indexOf(' ') + 1));
            for (int slot : new int[] {0, first - 1, first, first + 1, last - 1, last, last + 1, 143}) {
                if (slot >= 0 && slot < 144) {
                    boolean runs = slot >= first && slot <= last;
                    due(of + " in slot " + slot, boards("ride 9 0 1 " + of + ";", slot, false), runs ? 4 : 0);
                    due(of + " in slot " + slot + ", down", boards("ride 9 0 1 " + of + ";", slot, true), 0);
                }
            }
        }
    }

    /** How many of 4 persons board in a slot. */
    private static int boards(String ride, int slot, boolean down) {
        VirtualQueue q = Checks.park(ride);
        if (slot > 0) {
            q.advance(slot);
        }
        q.joinStandby(0, 4);
        if (down) {
            q.breakDown(0);
        }
        q.advance(1);
        return q.boarded(0, false);
    }

    private static void plannedCapacity() {
        says("PARK", "Its planned capacity in a slot is capacity * share / 100, rounded down,");
        int[][] cases = {{1, 99, 0}, {1, 100, 1}, {3, 33, 0}, {3, 34, 1}, {3, 66, 1}, {3, 67, 2}, {199, 99, 197},
            {200, 99, 198}, {200, 1, 2}, {99, 1, 0}, {100, 1, 1}, {200, 0, 0}, {200, 100, 200}, {150, 1, 1}};
        for (int[] c : cases) {
            VirtualQueue q = Checks.park("ride " + c[0] + " " + c[1] + " 1 0 143;");
            due(c[0] + " * " + c[1] + " / 100", q.planned(0, 0), c[2]);
            q = Checks.park("ride " + c[0] + " 0 1 0 143;");
            q.setShare(0, c[1]);
            due(c[0] + " * " + c[1] + " / 100 later", q.planned(0, 143), c[2]);
        }
        says("PARK", "from its first to its last slot, and 0 in all other slots");
        int[][] days = {{0, 0}, {0, 143}, {143, 143}, {5, 7}, {5, 5}};
        for (int[] d : days) {
            VirtualQueue q = Checks.park("ride 20 50 1 " + d[0] + " " + d[1] + ";");
            for (int slot = 0; slot < 144; slot++) {
                due(d[0] + " to " + d[1] + " in " + slot, q.planned(0, slot), slot >= d[0] && slot <= d[1] ? 10 : 0);
            }
        }
        says("PARK", "(also if it is down).");
        VirtualQueue down = Checks.park("ride 20 50 1 5 7;");
        down.breakDown(0);
        int[] due = {0, 10, 10, 10, 0};
        for (int slot = 4; slot <= 8; slot++) {
            due("slot " + slot, down.planned(0, slot), due[slot - 4]);
            due("slot " + slot + " remaining", down.remaining(0, slot), due[slot - 4]);
        }
    }

    private static void tiersAndParties() {
        says("PARK", "A tier has a limit (of active tickets),");
        for (int limit = 1; limit <= 5; limit++) {
            VirtualQueue q = Checks.park("ride 20 100 1 0 143;".repeat(6) + "tier " + limit + " 144 0 0;party 0 1;");
            for (int ride = 0; ride < limit; ride++) {
                due("limit " + limit, q.issue(0, ride, 0), ride);
            }
            due("beyond the limit " + limit, q.issue(0, limit, 0), NOT_ALLOWED);
        }
        says("PARK", "a horizon (slots),");
        for (int horizon : new int[] {1, 2, 142, 143, 144}) {
            VirtualQueue q = Checks.park("ride 20 100 1 0 143;tier 1 " + horizon + " 0 0;party 0 1;");
            due("within " + horizon, q.nextWindow(0, 0, Math.min(horizon, 143)), Math.min(horizon, 143));
            due("beyond " + horizon, q.nextWindow(0, 0, 143), horizon < 143 ? NO_WINDOW : 143);
        }
        says("PARK", "a pause (slots)");
        for (int pause : new int[] {0, 1, 2, 47, 48}) {
            VirtualQueue q = Checks.park("ride 20 100 1 0 143;ride 20 100 1 0 143;tier 5 144 " + pause + " 0;party 0 1;");
            q.issue(0, 0, 143);
            for (int slot = 0; slot < pause; slot++) {
                due("pause " + pause + " in " + slot, q.nextWindow(0, 1, 142), NOT_ALLOWED);
                q.advance(1);
            }
            due("behind the pause " + pause, q.nextWindow(0, 1, 142), 142);
        }
        says("PARK", "and a rank (the lower, the earlier on waitlists).");
        VirtualQueue q = Checks.park("ride 20 100 1 0 143;tier 1 9 0 9;tier 1 9 0 0;tier 1 9 0 8;tier 1 9 0 1;party 0 1;party 1 1;party 2 1;party 3 1;");
        for (int party = 0; party < 4; party++) {
            q.joinWaitlist(party, 0);
        }
        due("0, 1, 8, 9", Checks.waitlist(q, 0), "1 3 2 0 ");
        says("PARK", "A party belongs to a tier and has a size (persons).");
        VirtualQueue sizes = Checks.park("ride 12 100 1 0 0;tier 1 9 0 9;party 0 1;party 0 11;party 0 12;");
        due("12 persons", sizes.nextWindow(2, 0, 0), 0);
        due("11 persons", sizes.issue(1, 0, 0), 0);
        due("12 persons beside 11", sizes.nextWindow(2, 0, 0), NO_WINDOW);
        due("1 person beside 11", sizes.issue(0, 0, 0), 1);
        due("none is left", sizes.remaining(0, 0), 0);
    }

    private static void countQueries() {
        says("P8", "Returns the number of rides.");
        due("of a small park", Park.SMALL.make().rideCount(), 1);
        stays("of a busy one", Park.BUSY, VirtualQueue::rideCount, 4);
        says("P8", "Returns 0 to 8.");
        due("no park", new VirtualQueue().rideCount(), 0);
        due("an empty park", Checks.park("").rideCount(), 0);
        stays("a full one", Park.FULL, VirtualQueue::rideCount, 8);
        says("P9", "Returns the number of tiers.");
        due("of a small park", Park.SMALL.make().tierCount(), 1);
        stays("of a busy one", Park.BUSY, VirtualQueue::tierCount, 2);
        says("P9", "Returns 0 to 4.");
        due("no park", new VirtualQueue().tierCount(), 0);
        due("an empty park", Checks.park("").tierCount(), 0);
        stays("a full one", Park.FULL, VirtualQueue::tierCount, 4);
        says("P10", "Returns the number of parties.");
        due("of a small park", Park.SMALL.make().partyCount(), 1);
        stays("of a busy one", Park.BUSY, VirtualQueue::partyCount, 5);
        says("P10", "Returns 0 to 50.");
        due("no park", new VirtualQueue().partyCount(), 0);
        due("an empty park", Checks.park("").partyCount(), 0);
        stays("a full one", Park.FULL, VirtualQueue::partyCount, 50);
    }

    private static void now() {
        says("P11", "Returns the present slot.");
        VirtualQueue q = Park.SMALL.make();
        for (int slot = 0; slot < 144; slot++) {
            due("after " + slot, q.now(), slot);
            q.advance(1);
        }
        says("P11", "Returns 0 to 144.");
        due("least", new VirtualQueue().now(), 0);
        due("most", q.now(), 144);
        stays("when the day is over", Park.OVER, VirtualQueue::now, 144);
    }

    private static void addParty() {
        says("P12", "Adds a party.");
        VirtualQueue q = Checks.park("ride 20 100 1 0 143;tier 1 144 48 0;tier 2 144 0 0;");
        due("the first of all", q.addParty(1, 3), 0);
        due("it may get a ticket", q.issue(0, 0, 0), 0);
        q.advance(144);
        due("when the day is over", q.addParty(0, 3), 1);
        VirtualQueue paused = Checks.park("ride 20 100 1 0 143;tier 1 144 48 0;");
        paused.addParty(0, 1);
        due("it has had no ticket, so it has no pause", paused.issue(0, 0, 0), 0);
        says("P12", "`tier`: index of a tier");
        VirtualQueue four = Checks.park("tier 1 1 0 0;".repeat(4));
        due("the first tier", four.partyTier(four.addParty(0, 1)), 0);
        due("the last tier", four.partyTier(four.addParty(3, 1)), 3);
        says("P12", "`size`: 1 to 12");
        due("least", four.partySize(four.addParty(0, 1)), 1);
        due("most", four.partySize(four.addParty(0, 12)), 12);
        says("P12", "Returns the index of the party;");
        VirtualQueue many = Checks.park("tier 1 1 0 0;");
        for (int k = 0; k < 50; k++) {
            due("party " + k, many.addParty(0, 1 + k % 12), k);
        }
        due("the 50th", many.partySize(49), 2);
        says("P12", "FULL if there are 50.");
        due("the 51st", many.addParty(0, 1), FULL);
        due("there are 50 still", many.partyCount(), 50);
        stays("of a text with 50", Park.FULL, x -> x.addParty(3, 12), FULL);
        VirtualQueue text = Checks.park("tier 1 1 0 0;" + "party 0 1;".repeat(49));
        due("49 of a text and one more", text.addParty(0, 1), 49);
        due("and another", text.addParty(0, 1), FULL);
        says("P12", "Throws `IndexOutOfBoundsException` if there is no such tier");
        noIndex("no tier at all", Park.NEW, x -> x.addParty(0, 1));
        for (int tier : new int[] {-1, 2, 4, MAX, MIN}) {
            noIndex("tier " + tier, Park.BUSY, x -> x.addParty(tier, 1));
        }
        noIndex("tier 1 of an earlier park", Park.SHRUNK, x -> x.addParty(1, 1));
        noIndex("tier 3 of an earlier park", Park.SHRUNK, x -> x.addParty(3, 1));
        noIndex("tier 4, though it is full", Park.FULL, x -> x.addParty(4, 1));
        noIndex("the tier comes before the size", Park.BUSY, x -> x.addParty(2, 0));
        noIndex("the tier comes before the size", Park.BUSY, x -> x.addParty(-1, 13));
        says("P12", "Throws `IllegalArgumentException` if size is out of range");
        ranges("size", 1, 12, (x, size) -> x.addParty(0, size));
        noArgument("size 0, though it is full", Park.FULL, x -> x.addParty(0, 0));
        noArgument("size 13, though it is full", Park.FULL, x -> x.addParty(0, 13));
    }

    private static void partyQueries() {
        says("P13", "Returns the size of a party.");
        stays("the first", Park.BUSY, q -> q.partySize(0), 4);
        says("P13", "`party`: index of a party");
        stays("the last", Park.BUSY, q -> q.partySize(4), 3);
        says("P13", "Returns the number of persons.");
        VirtualQueue q = Checks.park("tier 1 1 0 0;party 0 1;party 0 12;");
        due("least", q.partySize(0), 1);
        due("most", q.partySize(1), 12);
        says("P13", "Throws `IndexOutOfBoundsException` if there is no such party");
        noSuchParty(VirtualQueue::partySize);
        says("P14", "Returns the tier of a party.");
        stays("the first", Park.BUSY, x -> x.partyTier(0), 0);
        says("P14", "`party`: index of a party");
        stays("the last", Park.BUSY, x -> x.partyTier(4), 1);
        says("P14", "Returns the index of the tier.");
        VirtualQueue four = Checks.park("tier 1 1 0 0;".repeat(4) + "party 0 1;party 3 1;");
        due("least", four.partyTier(0), 0);
        due("most", four.partyTier(1), 3);
        says("P14", "Throws `IndexOutOfBoundsException` if there is no such party");
        noSuchParty(VirtualQueue::partyTier);
    }

    private static void planned() {
        says("P15", "Returns the planned capacity of a ride in a slot.");
        stays("ride 1 before its first slot", Park.BUSY, q -> q.planned(1, 4), 0);
        stays("ride 1 in its first slot", Park.BUSY, q -> q.planned(1, 5), 4);
        stays("ride 0 in its last slot", Park.BUSY, q -> q.planned(0, 99), 10);
        stays("ride 0 after its last slot", Park.BUSY, q -> q.planned(0, 100), 0);
        stays("a past slot", Park.OVER, q -> q.planned(0, 0), 10);
        stays("a ride that is down", Park.BUSY, q -> q.planned(Park.DOWN, 143), 15);
        stays("charges do not count", Park.FULL, q -> q.planned(0, 0), 200);
        says("P15", "`ride`: index of a ride");
        stays("the last of all rides", Park.FULL, q -> q.planned(7, 0), 200);
        says("P15", "`slot`: 0 to 143");
        stays("least", Park.BUSY, q -> q.planned(2, 0), 12);
        stays("most", Park.BUSY, q -> q.planned(2, 143), 12);
        says("P15", "Returns the number of persons.");
        VirtualQueue q = Checks.park("ride 200 100 1 0 143;ride 200 0 1 0 143;");
        due("most", q.planned(0, 0), 200);
        due("least", q.planned(1, 0), 0);
        says("P15", "Throws `IndexOutOfBoundsException` if there is no such ride");
        noSuchRide((x, ride) -> x.planned(ride, 0));
        noIndex("the ride comes before the slot", Park.BUSY, x -> x.planned(4, 144));
        noIndex("the ride comes before the slot", Park.BUSY, x -> x.planned(-1, -1));
        says("P15", "Throws `IllegalArgumentException` if slot is out of range");
        ranges("slot", 0, 143, (x, slot) -> x.planned(0, slot));
        noArgument("the present slot 144", Park.OVER, x -> x.planned(0, 144));
    }

    private static void remaining() {
        says("P16", "Returns the remaining capacity of a ride in a slot.");
        stays("charged", Park.BUSY, q -> q.remaining(0, 4), 4);
        stays("the next slot is not", Park.BUSY, q -> q.remaining(0, 5), 10);
        stays("used", Park.BUSY, q -> q.remaining(3, 0), 11);
        stays("expired", Park.BUSY, q -> q.remaining(0, 1), 5);
        stays("open", Park.BUSY, q -> q.remaining(2, 0), 6);
        stays("cancelled, and another one", Park.BUSY, q -> q.remaining(1, 9), 1);
        stays("past slots", Park.OVER, q -> q.remaining(0, 1), 5);
        says("P16", "`ride`: index of a ride");
        stays("the last of all rides", Park.FULL, q -> q.remaining(7, 0), 200);
        says("P16", "`slot`: 0 to 143");
        stays("least", Park.BUSY, q -> q.remaining(2, 0), 6);
        stays("most", Park.BUSY, q -> q.remaining(2, 143), 12);
        says("P16", "Returns the number of persons.");
        stays("none is left", Park.FULL, q -> q.remaining(0, 0), 0);
        stays("all are left", Park.FULL, q -> q.remaining(0, 1), 200);
        VirtualQueue past = Checks.park("ride 10 100 1 0 143;tier 5 144 0 0;party 0 10;");
        past.issue(0, 0, 0);
        past.advance(1);
        past.setShare(0, 0);
        due("below nought in a past slot", past.remaining(0, 0), -10);
        due("nought in the present one", past.remaining(0, 1), 0);
        says("P16", "Throws `IndexOutOfBoundsException` if there is no such ride");
        noSuchRide((x, ride) -> x.remaining(ride, 0));
        noIndex("the ride comes before the slot", Park.BUSY, x -> x.remaining(4, 144));
        noIndex("the ride comes before the slot", Park.BUSY, x -> x.remaining(-1, -1));
        says("P16", "Throws `IllegalArgumentException` if slot is out of range");
        ranges("slot", 0, 143, (x, slot) -> x.remaining(0, slot));
        noArgument("the present slot 144", Park.OVER, x -> x.remaining(0, 144));
    }
}
