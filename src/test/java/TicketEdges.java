/** The edges of what is asked of tickets: P25 to P33. */
final class TicketEdges extends Edges {
    static void all() {
        count();
        partyAndRide();
        startAndEnd();
        state();
        extension();
        countTickets();
        itinerary();
    }

    /** The sentences that these six promises share: the index, and that there must be such a ticket. */
    private static void ofTicket(String place, AskWith ask, Object first, Object last) {
        says(place, "`ticket`: index of a ticket");
        stays("the first", Park.BUSY, q -> ask.of(q, 0), first);
        stays("the last", Park.BUSY, q -> ask.of(q, Park.BUSY_TICKETS - 1), last);
        says(place, "Throws `IndexOutOfBoundsException` if there is no such ticket");
        noSuchTicket(ask);
    }

    private static void count() {
        says("P25", "Returns the number of tickets.");
        stays("of all states", Park.BUSY, VirtualQueue::ticketCount, Park.BUSY_TICKETS);
        VirtualQueue q = Park.SMALL.make();
        q.issue(0, 0, 0);
        due("one", q.ticketCount(), 1);
        q.cancel(0);
        due("a cancelled one", q.ticketCount(), 1);
        says("P25", "Returns 0 to 150.");
        stays("least", Park.NEW, VirtualQueue::ticketCount, 0);
        stays("least", Park.SMALL, VirtualQueue::ticketCount, 0);
        stays("most", Park.FULL, VirtualQueue::ticketCount, 150);
    }

    private static void partyAndRide() {
        says("P26", "Returns the party of a ticket.");
        stays("an expired one", Park.BUSY, q -> q.ticketParty(Park.EXPIRED), 1);
        ofTicket("P26", VirtualQueue::ticketParty, 0, 2);
        says("P26", "Returns the index of the party.");
        stays("least", Park.FULL, q -> q.ticketParty(0), 0);
        stays("most", Park.FULL, q -> q.ticketParty(149), 49);
        says("P27", "Returns the ride of a ticket.");
        stays("an expired one", Park.BUSY, q -> q.ticketRide(Park.EXPIRED), 0);
        ofTicket("P27", VirtualQueue::ticketRide, 3, 0);
        says("P27", "Returns the index of the ride.");
        VirtualQueue q = Checks.park("ride 20 50 1 0 143;".repeat(8) + "tier 5 144 0 0;party 0 1;");
        due("least", q.ticketRide(q.issue(0, 0, 0)), 0);
        due("most", q.ticketRide(q.issue(0, 7, 0)), 7);
    }

    private static void startAndEnd() {
        says("P28", "Returns the start of a ticket.");
        stays("an expired one", Park.BUSY, q -> q.ticketStart(Park.EXPIRED), 1);
        stays("an extended one", Park.BUSY, q -> q.ticketStart(Park.OPEN), 0);
        ofTicket("P28", VirtualQueue::ticketStart, 0, 4);
        says("P28", "Returns the slot.");
        VirtualQueue q = Checks.park("ride 20 50 1 0 143;ride 20 50 24 0 143;tier 5 144 0 0;party 0 1;extension 48;");
        due("least", q.ticketStart(q.issue(0, 0, 0)), 0);
        due("most", q.ticketStart(q.issue(0, 1, 143)), 143);
        says("P29", "Returns the end of a ticket.");
        stays("an expired one", Park.BUSY, x -> x.ticketEnd(Park.EXPIRED), 3);
        stays("an extended one", Park.BUSY, x -> x.ticketEnd(Park.OPEN), 2);
        ofTicket("P29", VirtualQueue::ticketEnd, 0, 6);
        says("P29", "Returns the slot (it may be beyond 143).");
        due("least", q.ticketEnd(0), 0);
        due("24 slots from 143 on", q.ticketEnd(1), 166);
        VirtualQueue long1 = Checks.park("ride 20 50 24 0 143;tier 5 144 0 0;party 0 1;extension 48;");
        long1.issue(0, 0, 96);
        long1.advance(96);
        long1.breakDown(0);
        long1.advance(48);
        due("24 slots from 96 on and 48 more", long1.ticketEnd(0), 167);
        VirtualQueue last = Checks.park("ride 20 50 2 0 143;ride 20 50 1 0 143;tier 5 144 0 0;party 0 1;");
        due("143", last.ticketEnd(last.issue(0, 0, 142)), 143);
        last.cancel(0);
        due("144", last.ticketEnd(last.issue(0, 0, 143)), 144);
    }

    private static void state() {
        says("P30", "Returns the state of a ticket.");
        VirtualQueue q = Park.SMALL.make();
        q.issue(0, 0, 0);
        due("a new one", q.ticketState(0), ACTIVE);
        ofTicket("P30", VirtualQueue::ticketState, USED, ACTIVE);
        says("P30", "Returns ACTIVE, USED, EXPIRED, CANCELLED or OPEN.");
        stays("ACTIVE", Park.BUSY, x -> x.ticketState(Park.LATER), 0);
        stays("USED", Park.BUSY, x -> x.ticketState(Park.USED), 1);
        stays("EXPIRED", Park.BUSY, x -> x.ticketState(Park.EXPIRED), 2);
        stays("CANCELLED", Park.BUSY, x -> x.ticketState(Park.CANCELLED), 3);
        stays("OPEN", Park.BUSY, x -> x.ticketState(Park.OPEN), 4);
    }

    private static void extension() {
        says("P31", "Returns the extension of a ticket.");
        stays("one that was extended until it became OPEN", Park.BUSY, q -> q.ticketExtension(Park.OPEN), 1);
        ofTicket("P31", VirtualQueue::ticketExtension, 0, 0);
        says("P31", "Returns the number of slots.");
        VirtualQueue q = Checks.park("ride 20 50 1 0 143;tier 5 144 0 0;party 0 1;extension 48;");
        q.issue(0, 0, 0);
        q.breakDown(0);
        due("least", q.ticketExtension(0), 0);
        q.advance(1);
        due("one", q.ticketExtension(0), 1);
        q.advance(47);
        due("most", q.ticketExtension(0), 48);
        q.advance(96);
        due("no more", q.ticketExtension(0), 48);
    }

    private static void countTickets() {
        says("P32", "Counts the tickets of a party in a state.");
        int[][] due = {{0, 1, 0, 0, 0}, {0, 0, 1, 0, 0}, {1, 0, 0, 0, 1}, {0, 0, 0, 1, 0}, {2, 0, 0, 0, 0}};
        for (int party = 0; party < 5; party++) {
            for (int state = 0; state < 5; state++) {
                int p = party;
                int s = state;
                stays("party " + p + ", state " + s, Park.BUSY, q -> q.countTickets(p, s), due[p][s]);
            }
        }
        says("P32", "`party`: index of a party");
        stays("the last of 50", Park.FULL, q -> q.countTickets(49, ACTIVE), 3);
        says("P32", "`state`: ACTIVE, USED, EXPIRED, CANCELLED or OPEN");
        stays("the first", Park.FULL, q -> q.countTickets(0, 0), 3);
        stays("the last", Park.FULL, q -> q.countTickets(0, 4), 0);
        says("P32", "Returns the number.");
        stays("without tickets", Park.SMALL, q -> q.countTickets(0, ACTIVE), 0);
        VirtualQueue many = Checks.park("ride 20 50 1 0 143;tier 5 144 0 0;party 0 1;");
        for (int k = 0; k < 150; k++) {
            many.cancel(many.issue(0, 0, 0));
        }
        due("all 150 of one party", many.countTickets(0, CANCELLED), 150);
        says("P32", "Throws `IndexOutOfBoundsException` if there is no such party");
        noSuchParty((q, party) -> q.countTickets(party, ACTIVE));
        noIndex("the party comes before the state", Park.BUSY, q -> q.countTickets(5, 5));
        noIndex("the party comes before the state", Park.BUSY, q -> q.countTickets(-1, -1));
        says("P32", "Throws `IllegalArgumentException` if state is none of these");
        ranges("state", 0, 4, (q, state) -> q.countTickets(0, state));
    }

    private static void itinerary() {
        says("P33", "Returns an ACTIVE ticket of a party, ordered by start,");
        stays("the earlier one", Park.BUSY, q -> q.itinerary(4, 0), Park.LATER);
        stays("the later one", Park.BUSY, q -> q.itinerary(4, 1), Park.ON_DOWN_RIDE);
        stays("not the OPEN one", Park.BUSY, q -> q.itinerary(2, 0), Park.NOW);
        stays("not the USED one", Park.BUSY, q -> q.itinerary(0, 0), NONE);
        stays("not the EXPIRED one", Park.BUSY, q -> q.itinerary(1, 0), NONE);
        stays("not the CANCELLED one", Park.BUSY, q -> q.itinerary(3, 0), NONE);
        VirtualQueue five = Checks.park("ride 20 50 1 0 143;".repeat(5) + "tier 5 144 0 0;party 0 1;");
        int[] starts = {143, 0, 77, 1, 142};
        for (int ride = 0; ride < 5; ride++) {
            five.issue(0, ride, starts[ride]);
        }
        int[] order = {1, 3, 2, 4, 0};
        for (int k = 0; k < 5; k++) {
            due("five tickets, index " + k, five.itinerary(0, k), order[k]);
        }
        noEdge("P33", "on a tie by index.", "no window is given in which another ACTIVE ticket of the party starts, so no two have the same start");
        says("P33", "`party`: index of a party");
        stays("the first of 50", Park.FULL, q -> q.itinerary(0, 0), 0);
        stays("the last of 50", Park.FULL, q -> q.itinerary(49, 2), 149);
        says("P33", "`index`: from 0");
        due("the first", five.itinerary(0, 0), 1);
        due("before it", five.itinerary(0, -1), NONE);
        says("P33", "Returns the ticket;");
        due("the last", five.itinerary(0, 4), 0);
        says("P33", "NONE if there is no such index.");
        stays("one too many", Park.BUSY, q -> q.itinerary(4, 2), NONE);
        stays("without tickets", Park.SMALL, q -> q.itinerary(0, 0), NONE);
        for (int index : new int[] {-1, MAX, MIN}) {
            stays("index " + index, Park.BUSY, q -> q.itinerary(4, index), NONE);
        }
        says("P33", "Throws `IndexOutOfBoundsException` if there is no such party");
        noSuchParty((q, party) -> q.itinerary(party, 0));
        noIndex("with a wrong index too", Park.BUSY, q -> q.itinerary(5, -1));
    }
}
