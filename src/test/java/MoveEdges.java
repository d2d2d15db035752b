/** The edges of moving, exchanging, cancelling and redeeming tickets: P20 to P24. */
final class MoveEdges extends Edges {
    static void all() {
        move();
        moveSlots();
        moveServes();
        moveCalls();
        exchange();
        exchangeSlots();
        exchangeServes();
        exchangeCalls();
        cancel();
        redeem();
        redeemOpen();
    }

    private static VirtualQueue later(VirtualQueue q, int slots) {
        if (slots > 0) {
            q.advance(slots);
        }
        return q;
    }

    /** A ticket for party 0 and ride 0 from 10 to 12; its tier has a limit of 1 and a pause of 48, the horizon is 50. */
    private static VirtualQueue withTicket() {
        VirtualQueue q = Checks.park("ride 20 50 3 0 99;ride 20 50 3 0 99;tier 1 50 48 0;tier 5 144 0 0;party 0 6;party 1 5;party 1 4;extension 9;");
        q.issue(0, 0, 10);
        return q;
    }

    private static void moves(String what, VirtualQueue q, int earliest, int start) {
        due(what, answer(q, x -> x.moveTicket(0, earliest)), start);
        due(what + ": start", q.ticketStart(0), start);
    }

    private static void move() {
        says("P20", "Moves an ACTIVE ticket to another window of its ride: a slot is taken as in TICKETS"
                + " (with the horizon, without the checks before it),");
        moves("at the horizon", withTicket(), 50, 50);
        stays("behind the horizon", MoveEdges::withTicket, q -> q.moveTicket(0, 51), NO_WINDOW);
        moves("in spite of the limit and the pause", withTicket(), 11, 11);
        VirtualQueue full = Park.FULL.make();
        due("in spite of 150 tickets", full.moveTicket(149, 143), 143);
        due("still 150", full.ticketCount() + " " + full.ticketStart(149), "150 143");
        says("P20", "where the ticket itself neither blocks a window nor is charged.");
        for (int earliest = 8; earliest <= 12; earliest++) {
            moves("beside itself " + earliest, withTicket(), earliest, earliest);
        }
        VirtualQueue exact = Checks.park("ride 6 100 3 10 10;tier 1 50 0 0;party 0 6;");
        exact.issue(0, 0, 0);
        moves("the only slot, which it fills itself", exact, 0, 10);
        VirtualQueue tight = withTicket();
        tight.issue(2, 0, 11);
        moves("beside another one that leaves just enough", tight, 11, 11);
        VirtualQueue tighter = withTicket();
        tighter.issue(1, 0, 11);
        moves("beside another one that leaves too little", tighter, 11, 12);
        says("P20", "Its start, end and charge become those of the new window, its extension becomes 0.");
        VirtualQueue q = withTicket();
        q.moveTicket(0, 20);
        due("the ticket", Checks.ticket(q, 0), "0 0 20-22 state 0 extension 0");
        due("the old charge", q.remaining(0, 10), 10);
        due("the new charge", q.remaining(0, 20), 4);
        VirtualQueue extended = withTicket();
        extended.advance(10);
        extended.breakDown(0);
        extended.advance(2);
        due("extended", Checks.ticket(extended, 0), "0 0 10-14 state 0 extension 2");
        extended.repair(0);
        moves("in its own window", extended, 0, 12);
        due("no longer extended", Checks.ticket(extended, 0), "0 0 12-14 state 0 extension 0");
        VirtualQueue same = withTicket();
        same.advance(10);
        same.breakDown(0);
        same.advance(1);
        same.repair(0);
        due("extended", Checks.ticket(same, 0), "0 0 10-13 state 0 extension 1");
        same.moveTicket(0, 11);
        due("a slot later", Checks.ticket(same, 0), "0 0 11-13 state 0 extension 0");
    }

    private static void moveSlots() {
        says("P20", "`earliest`: the earliest slot, 0 to 143");
        moves("least", withTicket(), 0, 0);
        VirtualQueue late = Checks.park("ride 20 50 24 0 143;tier 1 144 0 0;party 0 6;");
        late.issue(0, 0, 0);
        moves("most", late, 143, 143);
        due("its end", late.ticketEnd(0), 166);
        moves("not before the present slot", later(withTicket(), 5), 0, 5);
        moves("the present slot", later(withTicket(), 5), 5, 5);
        moves("behind the present slot", later(withTicket(), 5), 6, 6);
        VirtualQueue last = Checks.park("ride 20 50 1 0 20;tier 1 144 0 0;party 0 6;");
        last.issue(0, 0, 0);
        moves("the last slot of the ride", last, 20, 20);
        stays("behind the last slot", MoveEdges::closing, q -> q.moveTicket(0, 21), NO_WINDOW);
        VirtualQueue own = Checks.park("ride 20 50 3 0 99;ride 20 50 3 0 99;tier 2 50 0 0;party 0 6;");
        own.issue(0, 0, 10);
        own.issue(0, 1, 20);
        int[][] cases = {{17, 17}, {18, 23}, {22, 23}, {23, 23}};
        for (int[] c : cases) {
            moves("another ticket of the party has 20-22, from " + c[0], own, c[0], c[1]);
        }
    }

    private static VirtualQueue closing() {
        VirtualQueue q = Checks.park("ride 20 50 1 0 20;tier 1 144 0 0;party 0 6;");
        q.issue(0, 0, 0);
        return q;
    }

    /** One slot of 12 places, which party 0 takes whole; the others wait, 3 before 1 and 2. */
    private static VirtualQueue waiting() {
        VirtualQueue q = Checks.park("ride 12 100 1 0 1;ride 12 100 1 0 9;tier 5 144 0 5;tier 5 144 0 0;"
                + "party 0 12;party 0 6;party 0 6;party 1 1;party 0 12;");
        q.issue(0, 0, 0);
        q.issue(4, 0, 1);
        q.joinWaitlist(1, 0);
        q.joinWaitlist(2, 0);
        q.joinWaitlist(3, 0);
        return q;
    }

    private static void moveServes() {
        says("P20", "Afterwards the waitlist of the ride is served.");
        VirtualQueue none = withTicket();
        moves("an empty waitlist", none, 20, 20);
        due("nothing is issued", none.ticketCount(), 1);
        VirtualQueue q = Checks.park("ride 12 100 1 0 0;ride 12 100 1 0 143;tier 5 144 0 0;party 0 6;party 0 7;party 0 6;party 0 1;");
        q.issue(0, 0, 0);
        q.joinWaitlist(1, 0);
        q.joinWaitlist(2, 0);
        q.joinWaitlist(3, 1);
        moves("to the window that it has", q, 0, 0);
        due("who fits is served, from the present slot on", Checks.ticket(q, 1), "2 0 0-0 state 0 extension 0");
        due("who does not fit stays", Checks.waitlist(q, 0), "1 ");
        due("no other waitlist", Checks.waitlist(q, 1), "3 ");
        VirtualQueue freed = Checks.park("ride 12 100 1 0 1;tier 5 144 0 0;party 0 12;party 0 12;");
        freed.issue(0, 0, 0);
        freed.joinWaitlist(1, 0);
        moves("away from slot 0", freed, 1, 1);
        due("its old slot is given", Checks.ticket(freed, 1), "1 0 0-0 state 0 extension 0");
        stays("a move that fails serves nobody", MoveEdges::waiting, x -> x.moveTicket(0, 1), NO_WINDOW);
        VirtualQueue full = Park.FULL.make();
        due("150 tickets", full.moveTicket(0, 9), 9);
        due("nobody is served then", full.ticketCount(), 150);
    }

    private static void moveCalls() {
        says("P20", "`ticket`: index of a ticket");
        VirtualQueue q = Park.FULL.make();
        due("the first", q.moveTicket(0, 99), 99);
        due("the last", q.moveTicket(149, 99), 99);
        says("P20", "Returns the new start;");
        due("least", q.moveTicket(0, 0), 0);
        due("most", q.moveTicket(0, 143), 143);
        says("P20", "NONE if the ticket is not ACTIVE;");
        for (int ticket : new int[] {Park.USED, Park.EXPIRED, Park.OPEN, Park.CANCELLED}) {
            stays("ticket " + ticket, Park.BUSY, x -> x.moveTicket(ticket, 0), NONE);
        }
        stays("a used one of a ride that is down", Park.BUSY, x -> x.moveTicket(Park.USED, 143), NONE);
        says("P20", "RIDE_DOWN if its ride is down;");
        stays("with a window", Park.BUSY, x -> x.moveTicket(Park.ON_DOWN_RIDE, 0), RIDE_DOWN);
        stays("without one", () -> later(Park.BUSY.make(), 15), x -> x.moveTicket(Park.ON_DOWN_RIDE, 143), RIDE_DOWN);
        says("P20", "NO_WINDOW.");
        stays("behind the ride's last slot", Park.BUSY, x -> x.moveTicket(Park.NOW, 100), NO_WINDOW);
        says("P20", "Throws `IndexOutOfBoundsException` if there is no such ticket");
        noSuchTicket((x, ticket) -> x.moveTicket(ticket, 0));
        noIndex("the ticket comes before the slot", Park.BUSY, x -> x.moveTicket(7, 144));
        says("P20", "Throws `IllegalArgumentException` if earliest is out of range");
        ranges("earliest", 0, 143, (x, slot) -> x.moveTicket(Park.NOW, slot));
        noArgument("though it is not ACTIVE", Park.BUSY, x -> x.moveTicket(Park.USED, 144));
        noArgument("though its ride is down", Park.BUSY, x -> x.moveTicket(Park.ON_DOWN_RIDE, -1));
    }

    private static void exchange() {
        says("P21", "Exchanges an ACTIVE ticket for one for another ride: the old ticket becomes CANCELLED,");
        VirtualQueue q = withTicket();
        due("the new one", q.exchange(0, 1, 10), 1);
        due("the old one", Checks.ticket(q, 0), "0 0 10-12 state 3 extension 0");
        due("its charge is gone", q.remaining(0, 10), 10);
        says("P21", "and a ticket for its party and the other ride is issued as in TICKETS, but without the check for NOT_ALLOWED,");
        due("in spite of the limit 1 and the pause", Checks.ticket(q, 1), "0 1 10-12 state 0 extension 0");
        due("it is charged", q.remaining(1, 10), 4);
        due("and again", q.exchange(1, 0, 0), 2);
        q.cancel(2);
        due("it counts as issued: the pause holds", q.issue(0, 0, 0), NOT_ALLOWED);
        VirtualQueue late = withTicket();
        late.advance(3);
        late.exchange(0, 1, 10);
        late.cancel(1);
        late.advance(47);
        due("47 slots behind it", late.issue(0, 0, 0), NOT_ALLOWED);
        late.advance(1);
        due("48 slots behind it", late.issue(0, 0, 0), 2);
        VirtualQueue five = Checks.park("ride 20 50 1 0 143;".repeat(6) + "tier 5 144 0 0;party 0 1;");
        for (int ride = 0; ride < 5; ride++) {
            five.issue(0, ride, 0);
        }
        due("with five tickets", five.exchange(0, 5, 0), 5);
        due("five still", five.countTickets(0, ACTIVE), 5);
        says("P21", "and so that the old ticket does not block a window.");
        for (int earliest = 8; earliest <= 12; earliest++) {
            VirtualQueue own = withTicket();
            own.exchange(0, 1, earliest);
            due("in its window " + earliest, own.ticketStart(1), earliest);
        }
        VirtualQueue other = Checks.park("ride 20 50 3 0 99;ride 20 50 3 0 99;ride 20 50 3 0 99;tier 5 144 0 0;party 0 6;");
        other.issue(0, 0, 10);
        other.issue(0, 1, 20);
        other.exchange(0, 2, 18);
        due("another ticket of the party does", other.ticketStart(2), 23);
    }

    private static void exchangeSlots() {
        says("P21", "`earliest`: the earliest slot, 0 to 143");
        int[][] cases = {{0, 0}, {50, 50}};
        for (int[] c : cases) {
            VirtualQueue q = withTicket();
            due("from " + c[0], q.exchange(0, 1, c[0]), 1);
            due("from " + c[0], q.ticketStart(1), c[1]);
        }
        stays("behind the horizon", MoveEdges::withTicket, q -> q.exchange(0, 1, 51), NO_WINDOW);
        VirtualQueue most = Checks.park("ride 20 50 3 0 143;ride 20 50 24 0 143;tier 5 144 0 0;party 0 6;");
        most.issue(0, 0, 10);
        most.exchange(0, 1, 143);
        due("most", Checks.ticket(most, 1), "0 1 143-166 state 0 extension 0");
        VirtualQueue present = later(withTicket(), 7);
        present.exchange(0, 1, 0);
        due("not before the present slot", present.ticketStart(1), 7);
        // the other ride has so many places, and the ticket's own ride has many, or none that is left
        for (int own : new int[] {6, 200}) {
            String guests = "tier 5 144 0 0;party 0 6;party 0 1;";
            VirtualQueue enough = exchanging("ride " + own + " 100 1 0 143;ride 6 100 1 5 9;" + guests);
            due("just enough", enough.exchange(0, 1, 0) + " " + Checks.ticket(enough, 1), "1 0 1 5-5 state 0 extension 0");
            stays("one place less", () -> exchanging("ride " + own + " 100 1 0 143;ride 5 100 1 0 143;" + guests),
                    x -> x.exchange(0, 1, 0), NO_WINDOW);
            VirtualQueue beside = exchanging("ride " + own + " 100 1 0 143;ride 6 100 1 5 9;" + guests);
            beside.issue(1, 1, 5);
            beside.remaining(0, 0);
            due("one person is there already", beside.exchange(0, 1, 0) + " " + beside.ticketStart(2), "2 6");
            VirtualQueue wide = exchanging("ride " + own + " 100 1 0 143;ride 7 100 1 5 9;" + guests);
            wide.issue(1, 1, 5);
            wide.remaining(0, 0);
            due("one person is there already, but a place more", wide.exchange(0, 1, 0) + " " + wide.ticketStart(2), "2 5");
        }
        VirtualQueue last = exchanging("ride 6 100 1 0 143;ride 6 100 1 0 20;tier 5 144 0 0;party 0 6;");
        due("the last slot of the other ride", last.exchange(0, 1, 20) + " " + last.ticketStart(1), "1 20");
        stays("behind it", () -> exchanging("ride 6 100 1 0 143;ride 6 100 1 0 20;tier 5 144 0 0;party 0 6;"),
                x -> x.exchange(0, 1, 21), NO_WINDOW);
    }

    private static VirtualQueue exchanging(String park) {
        VirtualQueue q = Checks.park(park);
        q.issue(0, 0, 0);
        return q;
    }

    private static void exchangeServes() {
        says("P21", "Afterwards the waitlist of the old ride is served.");
        VirtualQueue q = waiting();
        q.joinWaitlist(1, 1);
        q.joinWaitlist(0, 1);
        due("the new ticket", q.exchange(0, 1, 0), 2);
        due("first by rank", Checks.ticket(q, 3), "3 0 0-0 state 0 extension 0");
        due("then by turn", Checks.ticket(q, 4), "1 0 0-0 state 0 extension 0");
        due("the rest waits on", Checks.waitlist(q, 0), "2 ");
        due("the new ride's is not served, but the party has left it", Checks.waitlist(q, 1), "1 ");
        VirtualQueue empty = withTicket();
        due("an empty waitlist", empty.exchange(0, 1, 10), 1);
        due("an empty waitlist", empty.ticketCount(), 2);
        VirtualQueue down = waiting();
        down.breakDown(0);
        due("the old ride is down", down.exchange(0, 1, 0), 2);
        due("nobody is served then", down.ticketCount() + " " + Checks.waitlist(down, 0), "3 3 1 2 ");
        VirtualQueue last = Checks.park("ride 200 100 1 0 143;".repeat(4) + "tier 5 144 0 0;" + "party 0 1;".repeat(50));
        for (int k = 0; k < 149; k++) {
            last.issue(k % 50, k / 50, 0);
        }
        last.cancel(1);
        last.joinWaitlist(1, 0);
        due("the 150th ticket", last.exchange(0, 3, 0), 149);
        due("none is left for the waitlist", last.ticketCount() + " " + last.waitlistAt(0, 0), "150 1");
    }

    private static void exchangeCalls() {
        says("P21", "`ticket`: index of a ticket");
        VirtualQueue many = Checks.park("ride 200 100 1 0 143;".repeat(8) + "tier 5 144 0 0;" + "party 0 1;".repeat(50));
        for (int k = 0; k < 148; k++) {
            many.issue(k % 50, k / 50, 0);
        }
        due("the last", many.exchange(147, 7, 0), 148);
        says("P21", "`ride`: index of a ride");
        due("the last", many.ticketRide(148), 7);
        says("P21", "Returns the index of the new ticket;");
        due("the last of all", many.exchange(0, 6, 0), 149);
        says("P21", "NONE if the ticket is not ACTIVE;");
        for (int ticket : new int[] {Park.USED, Park.EXPIRED, Park.OPEN, Park.CANCELLED}) {
            stays("ticket " + ticket, Park.BUSY, x -> x.exchange(ticket, 2, 0), NONE);
            stays("ticket " + ticket + " and a ride that is down", Park.BUSY, x -> x.exchange(ticket, Park.DOWN, 0), NONE);
        }
        says("P21", "RIDE_DOWN,");
        stays("another ride that is down", Park.BUSY, x -> x.exchange(Park.NOW, Park.DOWN, 0), RIDE_DOWN);
        stays("its own ride, which is down", Park.BUSY, x -> x.exchange(Park.ON_DOWN_RIDE, Park.DOWN, 0), RIDE_DOWN);
        stays("a ride that the party has, which is down", Park.BUSY, x -> x.exchange(Park.LATER, Park.DOWN, 0), RIDE_DOWN);
        says("P21", "DUPLICATE (also if it is the ride of the ticket),");
        stays("its own ride", Park.BUSY, x -> x.exchange(Park.NOW, 0, 0), DUPLICATE);
        stays("its own ride, and no window", Park.BUSY, x -> x.exchange(Park.NOW, 0, 143), DUPLICATE);
        stays("a ride that the party has", Park.BUSY, x -> x.exchange(Park.ON_DOWN_RIDE, 1, 0), DUPLICATE);
        stays("its own ride, and 150 tickets", Park.FULL, x -> x.exchange(0, 0, 0), DUPLICATE);
        stays("a ride that the party has, and 150 tickets", Park.FULL, x -> x.exchange(0, 2, 0), DUPLICATE);
        says("P21", "FULL or NO_WINDOW (then the old ticket stays).");
        stays("150 tickets", Park.FULL, x -> x.exchange(0, 7, 0), FULL);
        stays("no window", Park.BUSY, x -> x.exchange(Park.LATER, 0, 100), NO_WINDOW);
        says("P21", "Throws `IndexOutOfBoundsException` if there is no such ticket or ride");
        noSuchTicket((x, ticket) -> x.exchange(ticket, 0, 0));
        for (int ride : new int[] {-1, 4, MAX, MIN}) {
            noIndex("ride " + ride, Park.BUSY, x -> x.exchange(Park.NOW, ride, 0));
            noIndex("ride " + ride + ", and not ACTIVE", Park.BUSY, x -> x.exchange(Park.USED, ride, 0));
        }
        noIndex("ride 8", Park.FULL, x -> x.exchange(0, 8, 0));
        noIndex("the ticket comes before the slot", Park.BUSY, x -> x.exchange(7, 0, 144));
        noIndex("the ride comes before the slot", Park.BUSY, x -> x.exchange(Park.NOW, 4, -1));
        says("P21", "Throws `IllegalArgumentException` if earliest is out of range");
        ranges("earliest", 0, 143, (x, slot) -> x.exchange(Park.NOW, 2, slot));
        noArgument("though it is not ACTIVE", Park.BUSY, x -> x.exchange(Park.USED, 2, 144));
        noArgument("though it is its own ride", Park.BUSY, x -> x.exchange(Park.NOW, 0, 144));
        noArgument("though it is full", Park.FULL, x -> x.exchange(0, 7, 144));
    }

    private static void cancel() {
        says("P22", "Cancels an ACTIVE ticket and serves the waitlist of its ride.");
        VirtualQueue q = waiting();
        due("two are served", q.cancel(0), 2);
        due("CANCELLED", q.ticketState(0), CANCELLED);
        due("first by rank", Checks.ticket(q, 2), "3 0 0-0 state 0 extension 0");
        due("then by turn", Checks.ticket(q, 3), "1 0 0-0 state 0 extension 0");
        due("the rest waits on", Checks.waitlist(q, 0), "2 ");
        says("P22", "`ticket`: index of a ticket");
        VirtualQueue full = Park.FULL.make();
        due("the first", full.cancel(0), 0);
        due("the last", full.cancel(149), 0);
        due("both", full.ticketState(0) + " " + full.ticketState(149), "3 3");
        says("P22", "Returns the number of tickets issued by that;");
        VirtualQueue none = withTicket();
        due("an empty waitlist", none.cancel(0), 0);
        VirtualQueue down = waiting();
        down.breakDown(0);
        due("the ride is down", down.cancel(0), 0);
        due("nobody is served then", Checks.waitlist(down, 0), "3 1 2 ");
        VirtualQueue all = Checks.park("ride 12 100 1 0 0;tier 5 144 0 0;party 0 12;" + "party 0 1;".repeat(12));
        all.issue(0, 0, 0);
        for (int party = 1; party <= 12; party++) {
            all.joinWaitlist(party, 0);
        }
        due("all twelve", all.cancel(0), 12);
        due("nobody waits any more", all.waitlistAt(0, 0), NONE);
        VirtualQueue later = later(waiting(), 1);
        due("a ticket of the present slot", later.cancel(1), 2);
        due("from the present slot on", Checks.ticket(later, 2), "3 0 1-1 state 0 extension 0");
        says("P22", "NONE if the ticket is not ACTIVE.");
        for (int ticket : new int[] {Park.USED, Park.EXPIRED, Park.OPEN, Park.CANCELLED}) {
            stays("ticket " + ticket, Park.BUSY, x -> x.cancel(ticket), NONE);
        }
        due("twice", none.cancel(0), NONE);
        says("P22", "Throws `IndexOutOfBoundsException` if there is no such ticket");
        noSuchTicket(VirtualQueue::cancel);
    }

    private static void redeem() {
        says("P23", "Redeems an ACTIVE ticket: it becomes USED, and its party joins the merge line of the ride.");
        VirtualQueue q = Park.BUSY.make();
        due("in its first slot", q.redeem(Park.NOW), true);
        due("USED", q.ticketState(Park.NOW), USED);
        due("all its persons", q.mergePersons(0), 6);
        says("P23", "`ticket`: index of a ticket");
        VirtualQueue full = Park.FULL.make();
        due("the first", full.redeem(0), true);
        full.advance(2);
        due("the last", full.redeem(149), true);
        says("P23", "Returns true;");
        VirtualQueue window = withTicket();
        window.advance(10);
        due("in its first slot", window.redeem(0), true);
        window = later(withTicket(), 12);
        due("in its last slot", window.redeem(0), true);
        VirtualQueue beyond = Checks.park("ride 20 50 2 0 143;tier 5 144 0 0;party 0 4;");
        beyond.issue(0, 0, 143);
        beyond.advance(144);
        due("in slot 144, which its window contains", beyond.redeem(0), true);
        VirtualQueue closed = Checks.park("ride 20 50 2 0 5;tier 5 144 0 0;party 0 4;");
        closed.issue(0, 0, 5);
        closed.advance(6);
        due("behind the ride's last slot, in its window", closed.redeem(0), true);
        VirtualQueue extended = later(withTicket(), 12);
        extended.breakDown(0);
        extended.advance(1);
        extended.repair(0);
        due("in the slot that it was extended to", extended.redeem(0), true);
        says("P23", "false if it is not ACTIVE,");
        for (int ticket : new int[] {Park.USED, Park.EXPIRED, Park.OPEN, Park.CANCELLED}) {
            stays("ticket " + ticket, Park.BUSY, x -> x.redeem(ticket), false);
        }
        due("twice", q.redeem(Park.NOW), false);
        VirtualQueue cancelled = later(withTicket(), 10);
        cancelled.cancel(0);
        due("cancelled in its window", cancelled.redeem(0), false);
        says("P23", "its window does not contain the present slot,");
        stays("much too early", MoveEdges::withTicket, x -> x.redeem(0), false);
        stays("one slot too early", () -> later(withTicket(), 9), x -> x.redeem(0), false);
        stays("one slot too late", () -> later(withTicket(), 13), x -> x.redeem(0), false);
        stays("later in the day", Park.BUSY, x -> x.redeem(Park.LATER), false);
        says("P23", "or the ride is down.");
        stays("in its window", () -> {
            VirtualQueue x = later(withTicket(), 10);
            x.breakDown(0);
            return x;
        }, x -> x.redeem(0), false);
        says("P23", "Throws `IndexOutOfBoundsException` if there is no such ticket");
        noSuchTicket(VirtualQueue::redeem);
    }

    private static void redeemOpen() {
        says("P24", "Redeems an OPEN ticket for any ride that is operating now: it becomes USED, and its party joins the merge line of that ride.");
        VirtualQueue other = Park.BUSY.make();
        due("another ride", other.redeemOpen(Park.OPEN, 0), true);
        due("USED", other.ticketState(Park.OPEN), USED);
        due("all its persons", other.mergePersons(0) + " " + other.mergePersons(2), "6 0");
        VirtualQueue own = Park.BUSY.make();
        due("its own ride", own.redeemOpen(Park.OPEN, 2), true);
        due("all its persons", own.mergePersons(2), 6);
        says("P24", "(The ride and the start of the ticket stay.)");
        due("the ticket", Checks.ticket(other, Park.OPEN), "2 2 0-2 state 1 extension 1");
        due("its charge", other.remaining(2, 0), 6);
        says("P24", "`ticket`: index of a ticket");
        VirtualQueue many = Checks.park("ride 200 100 1 0 143;".repeat(8) + "tier 5 144 0 0;" + "party 0 1;".repeat(50) + "extension 0;");
        for (int k = 0; k < 150; k++) {
            many.issue(k % 50, k / 50, 0);
        }
        for (int ride = 0; ride < 3; ride++) {
            many.breakDown(ride);
        }
        many.advance(3);
        due("the first", many.redeemOpen(0, 7), true);
        due("the last", many.redeemOpen(149, 7), true);
        says("P24", "`ride`: index of a ride");
        due("the last", many.mergePersons(7), 2);
        says("P24", "Returns true;");
        due("in the ride's first slot", later(Park.BUSY.make(), 1).redeemOpen(Park.OPEN, 1), true);
        due("in the ride's last slot", later(Park.BUSY.make(), 95).redeemOpen(Park.OPEN, 2), true);
        due("in slot 143", later(Park.BUSY.make(), 139).redeemOpen(Park.OPEN, 2), true);
        says("P24", "false if it is not OPEN,");
        for (int ticket : new int[] {Park.USED, Park.EXPIRED, Park.CANCELLED, Park.LATER, Park.NOW}) {
            stays("ticket " + ticket, Park.BUSY, x -> x.redeemOpen(ticket, 0), false);
        }
        due("twice", own.redeemOpen(Park.OPEN, 2), false);
        says("P24", "or the ride is not operating in the present slot.");
        stays("down", Park.BUSY, x -> x.redeemOpen(Park.OPEN, Park.DOWN), false);
        stays("one slot before its first", Park.BUSY, x -> x.redeemOpen(Park.OPEN, 1), false);
        VirtualQueue repaired = later(Park.BUSY.make(), 95);
        due("in slot 99, the last of ride 0", repaired.now() + " " + repaired.redeemOpen(Park.OPEN, 0), "99 true");
        stays("one slot behind its last", () -> later(Park.BUSY.make(), 96), x -> x.redeemOpen(Park.OPEN, 0), false);
        for (int ride = 0; ride < 4; ride++) {
            int of = ride;
            stays("the day is over", Park.OVER, x -> x.redeemOpen(Park.OPEN, of), false);
        }
        says("P24", "Throws `IndexOutOfBoundsException` if there is no such ticket or ride");
        noSuchTicket((x, ticket) -> x.redeemOpen(ticket, 0));
        for (int ride : new int[] {-1, 4, MAX, MIN}) {
            noIndex("ride " + ride, Park.BUSY, x -> x.redeemOpen(Park.OPEN, ride));
            noIndex("ride " + ride + ", and not OPEN", Park.BUSY, x -> x.redeemOpen(Park.USED, ride));
        }
        noIndex("ride 8", Park.FULL, x -> x.redeemOpen(0, 8));
    }
}
