/** Promises 20 to 33: what is done with tickets, and what is asked of them. */
public final class TicketTest {
    private static final int NONE = VirtualQueue.NONE;
    private static final int DUPLICATE = VirtualQueue.DUPLICATE;
    private static final int NO_WINDOW = VirtualQueue.NO_WINDOW;
    private static final int RIDE_DOWN = VirtualQueue.RIDE_DOWN;
    private static final int FULL = VirtualQueue.FULL;

    public static void main(String[] args) {
        move();
        moveIsRefused();
        exchange();
        exchangeIsRefused();
        exchangeFull();
        cancel();
        redeem();
        redeemOpen();
        fields();
        counts();
        itinerary();
        Checks.end();
    }

    private static void move() {
        VirtualQueue q = Checks.park("ride 20 50 3 0 99;ride 20 50 3 0 99;tier 2 50 40 0;party 0 6;party 0 6;party 0 5;extension 9;");
        q.issue(0, 0, 10);
        q.issue(1, 0, 10);
        q.joinWaitlist(2, 0);
        // neither the limit nor the pause counts, and the ticket does not stand in its own way
        Checks.due("P20 onto itself", q.moveTicket(0, 10), 10);
        Checks.due("P20 by one", q.moveTicket(0, 9), 9);
        Checks.due("P20", Checks.ticket(q, 0), "0 0 9-11 state 0 extension 0");
        Checks.due("P20 charge is gone", q.remaining(0, 10), 10);
        Checks.due("P20 charge has come", q.remaining(0, 9), 4);
        Checks.due("P20 the waitlist was served", Checks.ticket(q, 2), "2 0 0-2 state 0 extension 0");
        Checks.due("P20 to a taken slot", q.moveTicket(0, 11), 12);
        Checks.due("P20 the horizon", q.moveTicket(0, 50), 50);
        Checks.refused("P20 beyond the horizon", q, () -> q.moveTicket(0, 51), NO_WINDOW);
        q.moveTicket(0, 5);
        q.breakDown(0);
        q.advance(6);
        Checks.due("P20 extended", Checks.ticket(q, 0), "0 0 5-8 state 0 extension 1");
        q.repair(0);
        Checks.due("P20 not before the present slot", q.moveTicket(0, 0), 6);
        Checks.due("P20 without extension", Checks.ticket(q, 0), "0 0 6-8 state 0 extension 0");
        VirtualQueue own = Checks.park("ride 20 50 3 0 99;ride 20 50 3 0 99;tier 2 50 0 0;party 0 6;");
        own.issue(0, 0, 10);
        own.issue(0, 1, 20);
        Checks.due("P20 other tickets of the party block", own.moveTicket(0, 18), 23);
        Checks.due("P20 slot 0", own.moveTicket(0, 0), 0);
        Checks.due("P20 slot 0", Checks.ticket(own, 0), "0 0 0-2 state 0 extension 0");
    }

    private static void moveIsRefused() {
        VirtualQueue q = Checks.park("ride 20 50 1 0 20;tier 5 50 0 0;party 0 6;party 0 6;");
        q.issue(0, 0, 2);
        q.issue(1, 0, 20);
        Checks.noIndex("P20", q, () -> q.moveTicket(2, 0));
        Checks.noIndex("P20", q, () -> q.moveTicket(-1, 0));
        Checks.noIndex("P20 the ticket is checked first", q, () -> q.moveTicket(2, 144));
        Checks.noArgument("P20", q, () -> q.moveTicket(0, 144));
        Checks.noArgument("P20", q, () -> q.moveTicket(0, -1));
        Checks.refused("P20 after the last", q, () -> q.moveTicket(0, 21), NO_WINDOW);
        Checks.refused("P20 no room", q, () -> q.moveTicket(0, 20), NO_WINDOW);
        q.breakDown(0);
        Checks.refused("P20 down", q, () -> q.moveTicket(0, 21), RIDE_DOWN);
        q.cancel(0);
        Checks.refused("P20 not ACTIVE", q, () -> q.moveTicket(0, 0), NONE);
        Checks.noArgument("P20 exceptions come first", q, () -> q.moveTicket(0, 144));
    }

    private static void exchange() {
        VirtualQueue q = Checks.park("ride 12 50 3 0 99;ride 20 50 5 0 99;tier 1 50 40 0;tier 5 50 0 0;"
                + "party 0 6;party 1 6;party 1 6;extension 9;");
        q.issue(0, 0, 10);
        q.issue(1, 0, 0);
        q.joinWaitlist(2, 0);
        q.joinWaitlist(0, 1);
        q.advance(1);
        // the limit and the pause are not checked; the old window does not block
        Checks.due("P21", q.exchange(0, 1, 10), 2);
        Checks.due("P21 the old one", q.ticketState(0), VirtualQueue.CANCELLED);
        Checks.due("P21 the new one", Checks.ticket(q, 2), "0 1 10-14 state 0 extension 0");
        Checks.due("P21 leaves the waitlist of the new ride", q.waitlistAt(1, 0), NONE);
        Checks.due("P21 the waitlist of the old ride is served", Checks.ticket(q, 3), "2 0 1-3 state 0 extension 0");
        Checks.due("P21 not charged", q.remaining(0, 10), 6);
        Checks.due("P21 charged", q.remaining(1, 10), 4);
        Checks.due("P21 counts as issued", q.cancel(2), 0);
        Checks.due("P21 counts as issued", q.issue(0, 0, 0), VirtualQueue.NOT_ALLOWED);
        q.advance(39);
        Checks.due("P21 pause from slot 1 on", q.issue(0, 0, 0), VirtualQueue.NOT_ALLOWED);
        q.advance(1);
        Checks.due("P21 pause from slot 1 on", q.issue(0, 0, 0), 4);
        q.breakDown(0);
        Checks.due("P21 away from a ride that is down", q.exchange(4, 1, 0), 5);
        VirtualQueue own = Checks.park("ride 20 50 3 0 99;ride 20 50 3 0 99;ride 20 50 2 0 99;tier 2 50 0 0;party 0 6;");
        own.issue(0, 0, 10);
        own.issue(0, 1, 20);
        Checks.due("P21 other tickets of the party block", own.exchange(0, 2, 19), 2);
        Checks.due("P21 other tickets of the party block", own.ticketStart(2), 23);
        Checks.due("P21 slot 0", own.exchange(2, 0, 0), 3);
        Checks.due("P21 slot 0", own.ticketStart(3), 0);
    }

    private static void exchangeIsRefused() {
        VirtualQueue q = Checks.park("ride 20 50 1 0 20;ride 20 50 1 0 20;ride 20 50 1 0 60;ride 5 100 1 0 60;tier 5 50 0 0;party 0 6;");
        q.issue(0, 0, 2);
        q.issue(0, 1, 3);
        Checks.noIndex("P21", q, () -> q.exchange(2, 0, 0));
        Checks.noIndex("P21", q, () -> q.exchange(-1, 0, 0));
        Checks.noIndex("P21", q, () -> q.exchange(0, 4, 0));
        Checks.noIndex("P21", q, () -> q.exchange(0, -1, 0));
        Checks.noIndex("P21 indexes are checked first", q, () -> q.exchange(0, 4, 144));
        Checks.noArgument("P21", q, () -> q.exchange(0, 2, 144));
        Checks.noArgument("P21", q, () -> q.exchange(0, 2, -1));
        Checks.refused("P21 its own ride", q, () -> q.exchange(0, 0, 0), DUPLICATE);
        Checks.refused("P21 a ride that it has", q, () -> q.exchange(0, 1, 0), DUPLICATE);
        Checks.refused("P21 after the last", q, () -> q.exchange(0, 2, 61), NO_WINDOW);
        Checks.refused("P21 beyond the horizon", q, () -> q.exchange(0, 2, 51), NO_WINDOW);
        Checks.refused("P21 no room", q, () -> q.exchange(0, 3, 0), NO_WINDOW);
        q.breakDown(0);
        q.breakDown(2);
        Checks.refused("P21 down", q, () -> q.exchange(0, 2, 0), RIDE_DOWN);
        Checks.refused("P21 down comes before its own ride", q, () -> q.exchange(0, 0, 0), RIDE_DOWN);
        q.cancel(0);
        Checks.refused("P21 not ACTIVE", q, () -> q.exchange(0, 2, 0), NONE);
        Checks.noArgument("P21 exceptions come first", q, () -> q.exchange(0, 2, 144));
    }

    private static void exchangeFull() {
        VirtualQueue q = Checks.park("ride 200 100 1 0 143;".repeat(4) + "tier 4 144 0 0;" + "party 0 1;".repeat(50));
        for (int k = 0; k < 150; k++) {
            q.issue(k % 50, k / 50, 0);
        }
        Checks.refused("P21 full", q, () -> q.exchange(0, 3, 0), FULL);
        Checks.refused("P21 duplicate comes first", q, () -> q.exchange(0, 1, 0), DUPLICATE);
        Checks.due("P20 needs no new ticket", q.moveTicket(0, 9), 9);
        q.joinWaitlist(0, 3);
        q.cancel(1);
        Checks.due("P22 no ticket for the waitlist", q.setShare(3, 50), 0);
        Checks.due("P22 no ticket for the waitlist", q.waitlistAt(3, 0), 0);
    }

    private static void cancel() {
        VirtualQueue q = Checks.park("ride 12 100 1 0 0;ride 12 100 1 0 143;tier 5 144 0 0;tier 5 144 0 9;"
                + "party 0 12;party 1 6;party 0 7;party 0 6;party 1 1;");
        q.issue(0, 0, 0);
        Checks.noIndex("P22", q, () -> q.cancel(1));
        Checks.noIndex("P22", q, () -> q.cancel(-1));
        for (int party = 1; party < 5; party++) {
            q.joinWaitlist(party, 0);
        }
        q.joinWaitlist(1, 1);
        // on the list: 2 (7 persons), 3 (6), 1 (6), 4 (1); the second and third do not fit behind the first
        Checks.due("P22 tickets issued", q.cancel(0), 2);
        Checks.due("P22 CANCELLED", q.ticketState(0), VirtualQueue.CANCELLED);
        Checks.due("P22 first by rank", q.ticketParty(1), 2);
        Checks.due("P22 then who fits", q.ticketParty(2), 4);
        Checks.due("P22 the others stay", q.waitlistAt(0, 0), 3);
        Checks.due("P22 the others stay", q.waitlistAt(0, 1), 1);
        Checks.due("P22 two left", q.waitlistAt(0, 2), NONE);
        Checks.due("P22 other waitlists are not served", q.waitlistAt(1, 0), 1);
        Checks.refused("P22 again", q, () -> q.cancel(0), NONE);
        q.breakDown(0);
        Checks.due("P22 down: nobody is served", q.cancel(1), 0);
        q.repair(0);
        q.redeem(3);
        Checks.due("P22 used", q.ticketState(3), VirtualQueue.USED);
        Checks.refused("P22 used", q, () -> q.cancel(3), NONE);
        q.issue(0, 1, 0);
        int last = q.ticketCount() - 1;
        q.setExtensionLimit(0);
        q.breakDown(1);
        q.advance(1);
        Checks.due("P22 open", q.ticketState(last), VirtualQueue.OPEN);
        Checks.refused("P22 open", q, () -> q.cancel(last), NONE);
        Checks.due("P22 expired", q.ticketState(2), VirtualQueue.EXPIRED);
        Checks.refused("P22 expired", q, () -> q.cancel(2), NONE);
    }

    private static void redeem() {
        VirtualQueue q = Checks.park("ride 20 50 3 0 5;tier 5 144 0 0;party 0 6;party 0 4;party 0 3;");
        q.issue(0, 0, 2);
        q.issue(1, 0, 5);
        q.issue(2, 0, 5);
        Checks.noIndex("P23", q, () -> q.redeem(3));
        Checks.noIndex("P23", q, () -> q.redeem(-1));
        q.advance(1);
        Checks.refused("P23 too early", q, () -> q.redeem(0), false);
        q.advance(1);
        q.breakDown(0);
        Checks.refused("P23 down", q, () -> q.redeem(0), false);
        q.repair(0);
        Checks.due("P23 from its start on", q.redeem(0), true);
        Checks.due("P23 USED", q.ticketState(0), VirtualQueue.USED);
        Checks.due("P23 merge line", q.mergePersons(0), 6);
        Checks.refused("P23 again", q, () -> q.redeem(0), false);
        q.advance(5);
        // slot 7: the window 5-7 goes on, though the ride does not operate any more
        Checks.due("P23 to its end", q.redeem(1), true);
        Checks.due("P23 merge line", q.mergePersons(0), 4);
        q.advance(1);
        Checks.due("P23 too late", q.ticketState(2), VirtualQueue.EXPIRED);
        Checks.refused("P23 too late", q, () -> q.redeem(2), false);
        Checks.due("P23 never boards", q.boarded(0, true), 6);
        VirtualQueue late = Checks.park("ride 20 50 3 0 143;tier 5 144 0 0;party 0 6;");
        late.issue(0, 0, 143);
        late.advance(144);
        Checks.due("P23 behind the day", late.redeem(0), true);
    }

    private static void redeemOpen() {
        VirtualQueue q = Checks.park("ride 20 50 1 0 99;ride 20 50 1 0 0;ride 20 50 1 1 1;ride 20 50 1 2 99;tier 5 144 0 0;party 0 6;party 0 5;extension 0;");
        q.issue(0, 0, 0);
        q.issue(1, 3, 0);
        q.breakDown(0);
        Checks.refused("P24 not OPEN", q, () -> q.redeemOpen(0, 1), false);
        q.advance(1);
        Checks.due("P24 OPEN", q.ticketState(0), VirtualQueue.OPEN);
        Checks.noIndex("P24", q, () -> q.redeemOpen(2, 0));
        Checks.noIndex("P24", q, () -> q.redeemOpen(-1, 0));
        Checks.noIndex("P24", q, () -> q.redeemOpen(0, 4));
        Checks.noIndex("P24", q, () -> q.redeemOpen(0, -1));
        Checks.refused("P24 down", q, () -> q.redeemOpen(0, 0), false);
        Checks.refused("P24 after its last slot", q, () -> q.redeemOpen(0, 1), false);
        Checks.refused("P24 before its first slot", q, () -> q.redeemOpen(0, 3), false);
        Checks.refused("P24 ACTIVE", q, () -> q.redeemOpen(1, 2), false);
        Checks.refused("P23 OPEN", q, () -> q.redeem(0), false);
        Checks.due("P24", q.redeemOpen(0, 2), true);
        Checks.due("P24 USED; ride and start stay", Checks.ticket(q, 0), "0 0 0-0 state 1 extension 0");
        Checks.due("P24 merge line", q.mergePersons(2), 6);
        Checks.due("P24 not of its ride", q.mergePersons(0), 0);
        Checks.refused("P24 again", q, () -> q.redeemOpen(0, 2), false);
        q.advance(1);
        Checks.due("P24 boards there", q.boarded(2, true), 6);
    }

    private static void fields() {
        VirtualQueue q = Checks.park("ride 20 50 1 0 99;ride 20 50 4 3 99;tier 5 144 0 0;party 0 6;party 0 5;");
        Checks.due("P25", q.ticketCount(), 0);
        q.issue(0, 0, 7);
        q.issue(1, 1, 0);
        Checks.due("P25", q.ticketCount(), 2);
        Checks.due("P26", q.ticketParty(1), 1);
        Checks.due("P27", q.ticketRide(1), 1);
        Checks.due("P28", q.ticketStart(1), 3);
        Checks.due("P29", q.ticketEnd(1), 6);
        Checks.due("P30", q.ticketState(1), VirtualQueue.ACTIVE);
        Checks.due("P31", q.ticketExtension(1), 0);
        q.cancel(1);
        Checks.due("P25 cancelled ones count", q.ticketCount(), 2);
        for (int t : new int[] {2, -1, 150, Integer.MAX_VALUE, Integer.MIN_VALUE}) {
            Checks.noIndex("P26", q, () -> q.ticketParty(t));
            Checks.noIndex("P27", q, () -> q.ticketRide(t));
            Checks.noIndex("P28", q, () -> q.ticketStart(t));
            Checks.noIndex("P29", q, () -> q.ticketEnd(t));
            Checks.noIndex("P30", q, () -> q.ticketState(t));
            Checks.noIndex("P31", q, () -> q.ticketExtension(t));
        }
        VirtualQueue end = Checks.park("ride 20 50 24 0 143;tier 5 144 0 0;party 0 6;extension 48;");
        end.issue(0, 0, 143);
        end.breakDown(0);
        end.advance(144);
        Checks.due("P29 beyond 143", end.ticketEnd(0), 167);
        Checks.due("P31 in the last slot", end.ticketExtension(0), 1);
    }

    private static void counts() {
        VirtualQueue q = Checks.park("ride 20 50 1 0 99;".repeat(5) + "tier 5 144 0 0;party 0 6;party 0 5;extension 0;");
        q.issue(0, 0, 0);
        q.issue(0, 1, 1);
        q.issue(0, 2, 2);
        q.issue(0, 3, 3);
        q.issue(0, 4, 9);
        q.issue(1, 0, 9);
        q.redeem(0);
        q.cancel(1);
        q.advance(3);
        q.breakDown(3);
        q.advance(1);
        int[] due = {1, 1, 1, 1, 1};
        for (int state = 0; state < 5; state++) {
            Checks.due("P32 state " + state, q.countTickets(0, state), due[state]);
        }
        Checks.due("P32 another party", q.countTickets(1, VirtualQueue.ACTIVE), 1);
        Checks.due("P32 another party", q.countTickets(1, VirtualQueue.OPEN), 0);
        Checks.noIndex("P32", q, () -> q.countTickets(2, 0));
        Checks.noIndex("P32", q, () -> q.countTickets(-1, 0));
        Checks.noIndex("P32 the party is checked first", q, () -> q.countTickets(2, 5));
        Checks.noArgument("P32", q, () -> q.countTickets(0, 5));
        Checks.noArgument("P32", q, () -> q.countTickets(0, -1));
    }

    private static void itinerary() {
        VirtualQueue q = Checks.park("ride 20 50 2 0 99;".repeat(4) + "tier 5 144 0 0;party 0 6;party 0 5;extension 9;");
        Checks.due("P33 none", q.itinerary(0, 0), NONE);
        q.issue(0, 0, 50);
        q.issue(0, 1, 20);
        q.issue(1, 0, 10);
        q.issue(0, 2, 30);
        q.issue(0, 3, 0);
        int[] due = {4, 1, 3, 0};
        for (int k = 0; k < 4; k++) {
            Checks.due("P33 by start", q.itinerary(0, k), due[k]);
        }
        Checks.due("P33 no more", q.itinerary(0, 4), NONE);
        Checks.due("P33 extreme", q.itinerary(0, Integer.MAX_VALUE), NONE);
        Checks.due("P33 extreme", q.itinerary(0, Integer.MIN_VALUE), NONE);
        Checks.due("P33 negative", q.itinerary(0, -1), NONE);
        q.redeem(4);
        q.cancel(3);
        Checks.due("P33 only ACTIVE ones", q.itinerary(0, 0), 1);
        Checks.due("P33 only ACTIVE ones", q.itinerary(0, 1), 0);
        Checks.due("P33 only ACTIVE ones", q.itinerary(0, 2), NONE);
        Checks.due("P33 of that party", q.itinerary(1, 0), 2);
        q.moveTicket(0, 12);
        Checks.due("P33 moved", q.itinerary(0, 0), 0);
        Checks.noIndex("P33", q, () -> q.itinerary(2, 0));
        Checks.noIndex("P33", q, () -> q.itinerary(-1, 0));
    }
}
