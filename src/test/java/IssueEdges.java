/** The edges of TICKETS and of issuing: P17 to P19. */
final class IssueEdges extends Edges {
    private static final String ALL_CODES = "RIDE_DOWN, DUPLICATE, NOT_ALLOWED, FULL or NO_WINDOW.";

    static void all() {
        tickets();
        remaining();
        orderOfChecks();
        down();
        duplicate();
        limit();
        pause();
        full();
        slots();
        horizon();
        capacity();
        windows();
        issue();
        nextWindow();
        joint();
        jointSlots();
        jointCalls();
    }

    /** nextWindow() tells a start, and issue() then gives it. */
    static void gives(String what, VirtualQueue q, int[] call, int start) {
        int count = q.ticketCount();
        due(what, answer(q, x -> x.nextWindow(call[0], call[1], call[2])), start);
        due(what + " issued", answer(q, x -> x.issue(call[0], call[1], call[2])), count);
        if (q.ticketCount() > count) {
            due(what + " start", q.ticketStart(count), start);
        }
    }

    /** Both calls are refused with a code and change nothing. */
    static void refuses(String what, Maker maker, int[] call, int code) {
        stays(what, maker, q -> q.nextWindow(call[0], call[1], call[2]), code);
        stays(what + " issued", maker, q -> q.issue(call[0], call[1], call[2]), code);
    }

    private static int[] call(int party, int ride, int earliest) {
        return new int[] {party, ride, earliest};
    }

    private static void tickets() {
        says("TICKETS", "At most 150 tickets are issued, numbered from 0.");
        VirtualQueue q = Checks.park("ride 200 100 1 0 143;".repeat(4) + "tier 5 144 0 0;" + "party 0 1;".repeat(50));
        for (int k = 0; k < 150; k++) {
            due("ticket " + k, q.issue(k % 50, k / 50, 0), k);
        }
        due("one more", q.issue(0, 3, 0), FULL);
        q.cancel(0);
        due("cancelled ones count", q.issue(0, 3, 0), FULL);
        q.joinWaitlist(0, 3);
        q.joinWaitlist(1, 3);
        due("none from a waitlist", q.setShare(3, 99), 0);
        due("none by an exchange", q.exchange(1, 3, 0), FULL);
        due("none by a joint one", q.issueJoint(2, 3, 3, 0), FULL);
        due("150 still", q.ticketCount(), 150);
        says("TICKETS", "A ticket belongs to a party and a ride;");
        due("the first", q.ticketParty(0) + " " + q.ticketRide(0), "0 0");
        due("the last", q.ticketParty(149) + " " + q.ticketRide(149), "49 2");
        says("TICKETS", "it has a start and an end (both included; they form its window;");
        for (int length : new int[] {1, 2, 24}) {
            int[] due = {0, 1, length > 1 ? 1 : 0, 1, 0};
            int[] slots = {4, 5, 6, 4 + length, 5 + length};
            for (int k = 0; k < slots.length; k++) {
                VirtualQueue w = Checks.park("ride 20 50 " + length + " 0 143;tier 1 144 0 0;party 0 1;");
                w.issue(0, 0, 5);
                due("length " + length, w.ticketEnd(0), 4 + length);
                w.advance(slots[k]);
                due("length " + length + " in slot " + slots[k], w.redeem(0), due[k] == 1);
            }
        }
        says("TICKETS", "it is charged to the slot of its start),");
        VirtualQueue c = Checks.park("ride 20 50 3 0 143;tier 1 144 0 0;party 0 7;");
        c.issue(0, 0, 5);
        int[] left = {10, 3, 10, 10, 10};
        for (int slot = 4; slot <= 8; slot++) {
            due("slot " + slot, c.remaining(0, slot), left[slot - 4]);
        }
        says("TICKETS", "and an extension (0 at first).");
        due("of a new ticket", c.ticketExtension(0), 0);
        VirtualQueue again = Checks.park("ride 20 50 3 0 143;tier 1 144 0 0;party 0 7;");
        again.saveSnapshot(0);
        again.issue(0, 0, 0);
        again.breakDown(0);
        again.advance(4);
        due("extended", again.ticketExtension(0), 4);
        again.saveSnapshot(1);
        again.restoreSnapshot(0);
        due("issued anew from a snapshot without tickets", Checks.ticket(again, again.issue(0, 0, 0)), "0 0 0-2 state 0 extension 0");
        again.restoreSnapshot(1);
        due("extended", again.ticketExtension(0), 4);
        Checks.loadPark(again, "ride 20 50 3 0 143;tier 1 144 0 0;party 0 7;");
        due("issued anew in a new park", Checks.ticket(again, again.issue(0, 0, 0)), "0 0 0-2 state 0 extension 0");
        says("TICKETS", "Its state is ACTIVE, USED, EXPIRED, CANCELLED or OPEN.");
        due("of a new ticket", c.ticketState(0), ACTIVE);
        VirtualQueue busy = Park.BUSY.make();
        due("ACTIVE", busy.ticketState(Park.NOW), ACTIVE);
        due("USED", busy.ticketState(Park.USED), USED);
        due("EXPIRED", busy.ticketState(Park.EXPIRED), EXPIRED);
        due("CANCELLED", busy.ticketState(Park.CANCELLED), CANCELLED);
        due("OPEN", busy.ticketState(Park.OPEN), OPEN);
    }

    private static void remaining() {
        says("TICKETS", "The remaining capacity of a ride in a slot is the planned capacity minus the sizes of the parties"
                + " of all tickets for this ride that are charged to this slot and not CANCELLED.");
        VirtualQueue q = Checks.park("ride 12 100 1 0 143;ride 12 100 1 0 143;tier 5 144 0 0;party 0 5;party 0 7;extension 0;");
        due("no ticket", q.remaining(0, 0), 12);
        q.issue(0, 0, 0);
        due("one ticket", q.remaining(0, 0), 7);
        q.issue(1, 0, 0);
        due("no place is left", q.remaining(0, 0), 0);
        due("another ride", q.remaining(1, 0), 12);
        due("another slot", q.remaining(0, 1), 12);
        q.redeem(0);
        due("USED", q.remaining(0, 0), 0);
        q.advance(1);
        due("EXPIRED", q.ticketState(1) + " " + q.remaining(0, 0), "2 0");
        q.issue(0, 0, 1);
        q.cancel(2);
        due("CANCELLED", q.remaining(0, 1), 12);
        q.issue(1, 1, 1);
        q.breakDown(1);
        q.advance(1);
        due("OPEN", q.ticketState(3) + " " + q.remaining(1, 1), "4 5");
        q.redeemOpen(3, 0);
        due("OPEN and used for another ride", q.remaining(1, 1) + " " + q.remaining(0, 2), "5 12");
        due("the first ticket's ride is what counts", q.remaining(0, 0), 0);
    }

    /**
     * So many tickets; party 0 has one for ride 0, party 1 is at its limit, party 2 must pause, party 3 has nothing.
     * None is for the rides 4 and 5, and nothing is planned for ride 5.
     */
    private static VirtualQueue crowded(int tickets, boolean down) {
        VirtualQueue q = Checks.park("ride 200 100 1 0 143;".repeat(6) + "tier 5 144 0 0;tier 1 144 0 0;tier 5 144 48 0;"
                + "party 0 1;party 1 1;party 2 1;party 0 1;" + "party 0 1;".repeat(46));
        q.issue(0, 0, 0);
        q.issue(1, 1, 0);
        q.issue(2, 1, 0);
        for (int k = 3; k < tickets; k++) {
            q.issue(4 + k % 46, k / 46, 0);
        }
        due("tickets", q.ticketCount(), tickets);
        q.setShare(5, 0);
        if (down) {
            q.breakDown(0);
            q.breakDown(4);
            q.breakDown(5);
        }
        return q;
    }

    private static void orderOfChecks() {
        says("TICKETS", "To issue a ticket for a party and a ride from an earliest slot on, the following is checked in this order:");
        Maker down = () -> crowded(150, true);
        Maker full = () -> crowded(150, false);
        Maker fewer = () -> crowded(149, false);
        refuses("down, and a duplicate", down, call(0, 0, 0), RIDE_DOWN);
        refuses("down, and at the limit", down, call(1, 4, 0), RIDE_DOWN);
        refuses("down, and a pause", down, call(2, 4, 0), RIDE_DOWN);
        refuses("down, and 150 tickets", down, call(3, 4, 0), RIDE_DOWN);
        refuses("down, and no window", down, call(3, 5, 0), RIDE_DOWN);
        refuses("a duplicate, and 150 tickets", full, call(0, 0, 0), DUPLICATE);
        refuses("a duplicate, and at the limit", full, call(1, 1, 0), DUPLICATE);
        refuses("a duplicate, and a pause", full, call(2, 1, 0), DUPLICATE);
        refuses("a limit, and 150 tickets", full, call(1, 5, 0), NOT_ALLOWED);
        refuses("a pause, and 150 tickets", full, call(2, 5, 0), NOT_ALLOWED);
        refuses("150 tickets, and no window", full, call(3, 5, 0), FULL);
        refuses("149 tickets, and no window", fewer, call(3, 5, 0), NO_WINDOW);
        refuses("149 tickets, a limit, and no window", fewer, call(1, 5, 0), NOT_ALLOWED);
        refuses("149 tickets, a pause, and no window", fewer, call(2, 5, 0), NOT_ALLOWED);
        gives("149 tickets and nothing else", fewer.make(), call(3, 4, 0), 0);
    }

    private static void down() {
        says("TICKETS", "the ride is down: RIDE_DOWN;");
        VirtualQueue q = Park.SMALL.make();
        q.breakDown(0);
        due("down", q.issue(0, 0, 0), RIDE_DOWN);
        q.repair(0);
        gives("repaired", q, call(0, 0, 0), 0);
        stays("another ride is down", Park.BUSY, x -> x.nextWindow(0, 0, 0), 4);
        stays("that ride", Park.BUSY, x -> x.issue(0, Park.DOWN, 0), RIDE_DOWN);
    }

    private static void duplicate() {
        says("TICKETS", "the party has an ACTIVE ticket for this ride: DUPLICATE;");
        String park = "ride 20 50 1 0 143;ride 20 50 1 0 143;tier 5 144 0 0;party 0 4;party 0 5;extension 0;";
        Maker active = () -> {
            VirtualQueue q = Checks.park(park);
            q.issue(0, 0, 143);
            return q;
        };
        refuses("ACTIVE", active, call(0, 0, 0), DUPLICATE);
        gives("another party", active.make(), call(1, 0, 0), 0);
        gives("another ride", active.make(), call(0, 1, 0), 0);
        VirtualQueue q = active.make();
        q.cancel(0);
        gives("CANCELLED", q, call(0, 0, 0), 0);
        q.redeem(1);
        gives("USED", q, call(0, 0, 0), 0);
        q.advance(1);
        due("it is", q.ticketState(2), EXPIRED);
        gives("EXPIRED", q, call(0, 0, 0), 1);
        q.breakDown(0);
        q.advance(1);
        q.repair(0);
        due("it is", q.ticketState(3), OPEN);
        gives("OPEN", q, call(0, 0, 0), 2);
    }

    private static void limit() {
        says("TICKETS", "the party has as many ACTIVE tickets as the limit of its tier,");
        for (int limit : new int[] {1, 2, 5}) {
            Maker maker = () -> {
                VirtualQueue q = Checks.park("ride 20 50 1 0 143;".repeat(6) + "tier " + limit + " 144 0 0;party 0 4;party 0 1;extension 0;");
                for (int ride = 0; ride < limit; ride++) {
                    gives("ticket " + ride + " of " + limit, q, call(0, ride, 0), ride);
                }
                return q;
            };
            refuses("one more than " + limit, maker, call(0, 5, 0), NOT_ALLOWED);
            gives("another party", maker.make(), call(1, 5, 0), 0);
            VirtualQueue cancelled = maker.make();
            cancelled.cancel(limit - 1);
            gives("CANCELLED does not count", cancelled, call(0, 5, 7), 7);
            VirtualQueue used = maker.make();
            used.redeem(0);
            gives("USED does not count", used, call(0, 5, 7), 7);
            VirtualQueue expired = maker.make();
            expired.advance(1);
            gives("EXPIRED does not count", expired, call(0, 5, 7), 7);
            VirtualQueue open = maker.make();
            open.breakDown(0);
            open.advance(1);
            due("it is", open.ticketState(0), OPEN);
            gives("OPEN does not count", open, call(0, 5, 7), 7);
        }
    }

    private static void pause() {
        says("TICKETS", "or fewer slots than the pause have passed since the slot in which a ticket was last issued to it");
        for (int pause : new int[] {1, 2, 48}) {
            Maker maker = () -> {
                VirtualQueue q = Checks.park("ride 20 50 1 0 143;".repeat(3) + "tier 5 144 " + pause + " 0;party 0 4;party 0 1;");
                q.advance(3);
                q.issue(0, 0, 143);
                return q;
            };
            refuses("in the same slot, " + pause, maker, call(0, 1, 0), NOT_ALLOWED);
            gives("another party, " + pause, maker.make(), call(1, 1, 0), 3);
            Maker before = () -> later(maker.make(), pause - 1);
            refuses("one slot too early, " + pause, before, call(0, 1, 0), NOT_ALLOWED);
            Maker cancelled = () -> {
                VirtualQueue q = before.make();
                q.cancel(0);
                return q;
            };
            refuses("one slot too early, without the ticket, " + pause, cancelled, call(0, 1, 0), NOT_ALLOWED);
            VirtualQueue q = later(maker.make(), pause);
            gives("in time, " + pause, q, call(0, 1, 0), 3 + pause);
            due("and then the next pause, " + pause, q.issue(0, 2, 0), NOT_ALLOWED);
        }
        VirtualQueue none = Checks.park("ride 20 50 1 0 143;".repeat(3) + "tier 5 144 0 0;party 0 4;");
        gives("no pause", none, call(0, 0, 0), 0);
        gives("no pause", none, call(0, 1, 0), 1);
        says("TICKETS", "(if there was any): NOT_ALLOWED;");
        VirtualQueue first = Checks.park("ride 20 50 1 0 143;".repeat(3) + "tier 5 144 48 0;party 0 4;party 0 4;");
        gives("the first ticket in slot 0", first, call(0, 0, 0), 0);
        first.advance(47);
        gives("the first ticket in slot 47", first, call(1, 0, 0), 47);
        due("the other one is too early", first.issue(0, 1, 0), NOT_ALLOWED);
    }

    private static VirtualQueue later(VirtualQueue q, int slots) {
        if (slots > 0) {
            q.advance(slots);
        }
        return q;
    }

    private static void full() {
        says("TICKETS", "there are 150 tickets: FULL.");
        refuses("150", () -> Park.FULL.make(), call(0, 3, 0), FULL);
        gives("149", crowded(149, false), call(3, 4, 143), 143);
        VirtualQueue q = crowded(148, false);
        gives("148", q, call(3, 2, 0), 0);
        gives("149", q, call(3, 1, 1), 1);
        due("150", q.issue(3, 0, 2), FULL);
    }

    private static void slots() {
        says("TICKETS", "Then the first slot s is taken that is neither before the earliest slot");
        String park = "ride 20 50 1 0 143;tier 5 144 0 0;party 0 4;";
        for (int earliest : new int[] {0, 1, 77, 142, 143}) {
            gives("earliest " + earliest, Checks.park(park), call(0, 0, earliest), earliest);
        }
        says("TICKETS", "nor before the present slot,");
        for (int now : new int[] {1, 77, 142, 143}) {
            gives("present slot " + now, later(Checks.park(park), now), call(0, 0, 0), now);
            gives("present slot " + now, later(Checks.park(park), now), call(0, 0, now - 1), now);
            gives("present slot " + now, later(Checks.park(park), now), call(0, 0, now), now);
        }
        gives("the earliest is later", later(Checks.park(park), 77), call(0, 0, 78), 78);
        refuses("the day is over", () -> later(Checks.park(park), 144), call(0, 0, 0), NO_WINDOW);
        refuses("the day is over", () -> later(Checks.park(park), 144), call(0, 0, 143), NO_WINDOW);
        says("TICKETS", "not after the last slot of the ride,");
        for (int last : new int[] {0, 1, 77, 142}) {
            Maker maker = () -> Checks.park("ride 20 50 24 0 " + last + ";tier 5 144 0 0;party 0 4;");
            gives("last slot " + last, maker.make(), call(0, 0, last), last);
            refuses("behind " + last, maker, call(0, 0, last + 1), NO_WINDOW);
            refuses("at the end", maker, call(0, 0, 143), NO_WINDOW);
            gives("present and last slot " + last, later(maker.make(), last), call(0, 0, 0), last);
            refuses("present slot behind " + last, () -> later(maker.make(), last + 1), call(0, 0, 0), NO_WINDOW);
        }
        Maker early = () -> Checks.park("ride 20 50 1 5 5;tier 5 144 0 0;party 0 4;");
        gives("nothing is planned before the first slot", early.make(), call(0, 0, 0), 5);
        gives("the only slot", early.make(), call(0, 0, 5), 5);
        refuses("behind the only slot", early, call(0, 0, 6), NO_WINDOW);
    }

    private static void horizon() {
        says("TICKETS", "and not after the present slot plus the horizon,");
        for (int horizon : new int[] {1, 2, 50, 142}) {
            Maker maker = () -> Checks.park("ride 20 50 1 0 143;tier 5 " + horizon + " 0 0;party 0 4;");
            gives("at the horizon " + horizon, maker.make(), call(0, 0, horizon), horizon);
            refuses("behind the horizon " + horizon, maker, call(0, 0, horizon + 1), NO_WINDOW);
            gives("a slot later " + horizon, later(maker.make(), 1), call(0, 0, horizon + 1), horizon + 1);
        }
        for (int horizon : new int[] {1, 143, 144}) {
            Maker maker = () -> later(Checks.park("ride 20 50 1 0 143;tier 5 " + horizon + " 0 0;party 0 4;"), 142);
            gives("beyond the day " + horizon, maker.make(), call(0, 0, 143), 143);
        }
        Maker opens = () -> Checks.park("ride 20 50 1 10 143;tier 5 10 0 0;tier 5 9 0 0;party 0 4;party 1 4;");
        gives("the first slot of the ride is at the horizon", opens.make(), call(0, 0, 0), 10);
        refuses("the first slot of the ride is behind it", opens, call(1, 0, 0), NO_WINDOW);
    }

    private static void capacity() {
        says("TICKETS", "for which the remaining capacity is at least the size of the party,");
        for (int size : new int[] {1, 2, 11, 12}) {
            String party = "tier 5 144 0 0;party 0 " + size + ";party 0 1;";
            gives("just enough for " + size, Checks.park("ride " + size + " 100 1 0 143;" + party), call(0, 0, 0), 0);
            if (size > 1) {
                refuses("one less than " + size, () -> Checks.park("ride " + (size - 1) + " 100 1 0 143;" + party), call(0, 0, 0), NO_WINDOW);
            }
            VirtualQueue q = Checks.park("ride " + size + " 100 1 0 143;" + party);
            q.issue(1, 0, 0);
            gives("one person is there already, " + size, q, call(0, 0, 0), 1);
            q = Checks.park("ride " + (size + 1) + " 100 1 0 143;" + party);
            q.issue(1, 0, 0);
            gives("one person is there already, but a place more, " + size, q, call(0, 0, 0), 0);
        }
        refuses("nothing is planned", () -> Checks.park("ride 200 0 1 0 143;tier 5 144 0 0;party 0 1;"), call(0, 0, 0), NO_WINDOW);
        says("TICKETS", "If there is none: NO_WINDOW.");
        Maker taken = () -> {
            VirtualQueue q = Checks.park("ride 12 100 1 0 2;tier 5 144 0 0;" + "party 0 12;".repeat(4));
            for (int slot = 0; slot < 3; slot++) {
                gives("slot " + slot, q, call(slot, 0, 0), slot);
            }
            return q;
        };
        refuses("all slots are taken", taken, call(3, 0, 0), NO_WINDOW);
        VirtualQueue q = taken.make();
        q.cancel(2);
        gives("one is free again", q, call(3, 0, 0), 2);
    }

    private static void windows() {
        says("TICKETS", "and for which the window from s to s + length - 1 has no slot in common with the window of an"
                + " ACTIVE ticket of the party.");
        // a ticket for ride 0 from 10 to 14; rides 1, 2 and 3 have the lengths 1, 3 and 24
        Maker maker = () -> {
            VirtualQueue q = Checks.park("ride 20 50 5 0 143;ride 20 50 1 0 143;ride 20 50 3 0 143;ride 20 50 24 0 143;"
                    + "tier 5 144 0 0;party 0 4;party 0 4;extension 48;");
            q.issue(0, 0, 10);
            return q;
        };
        gives("length 1 in front of it", maker.make(), call(0, 1, 9), 9);
        gives("length 1 in its first slot", maker.make(), call(0, 1, 10), 15);
        gives("length 1 in its last slot", maker.make(), call(0, 1, 14), 15);
        gives("length 1 behind it", maker.make(), call(0, 1, 15), 15);
        gives("length 3 that ends in front of it", maker.make(), call(0, 2, 7), 7);
        gives("length 3 that ends in its first slot", maker.make(), call(0, 2, 8), 15);
        gives("length 3 that begins in its last slot", maker.make(), call(0, 2, 14), 15);
        gives("length 24 that contains it", maker.make(), call(0, 3, 0), 15);
        gives("another party", maker.make(), call(1, 3, 0), 0);
        VirtualQueue cancelled = maker.make();
        cancelled.cancel(0);
        gives("CANCELLED", cancelled, call(0, 2, 8), 8);
        VirtualQueue used = later(maker.make(), 10);
        used.redeem(0);
        gives("USED", used, call(0, 2, 11), 11);
        VirtualQueue extended = later(maker.make(), 10);
        extended.breakDown(0);
        extended.advance(2);
        gives("extended to 16", extended, call(0, 2, 0), 17);
        extended.setExtensionLimit(0);
        extended.cancel(1);
        extended.advance(1);
        gives("OPEN", extended, call(0, 2, 0), 13);
        // windows that reach beyond the day
        Maker end = () -> {
            VirtualQueue q = Checks.park("ride 20 50 24 0 143;ride 20 50 24 0 143;ride 20 50 1 0 143;tier 5 144 0 0;party 0 4;party 0 4;");
            q.issue(0, 0, 143);
            return q;
        };
        gives("in front of a window beyond the day", end.make(), call(0, 1, 119), 119);
        refuses("one slot in common with it", end, call(0, 1, 120), NO_WINDOW);
        refuses("the same slot", end, call(0, 2, 143), NO_WINDOW);
        gives("another party", end.make(), call(1, 1, 120), 120);
        says("TICKETS", "Otherwise the ticket is issued with this window and charged to s.");
        VirtualQueue q = end.make();
        gives("length 24", q, call(1, 1, 143), 143);
        due("its window", q.ticketStart(1) + "-" + q.ticketEnd(1), "143-166");
        due("its charge", q.remaining(1, 142) + " " + q.remaining(1, 143), "10 6");
    }

    private static void issue() {
        says("P17", "Issues a ticket.");
        VirtualQueue q = Park.SMALL.make();
        due("the first of all", q.issue(0, 0, 0), 0);
        due("it is there", q.ticketCount() + ": " + Checks.ticket(q, 0), "1: 0 0 0-1 state 0 extension 0");
        says("P17", "`party`: index of a party");
        VirtualQueue many = Checks.park("ride 20 50 1 0 143;".repeat(8) + "tier 5 144 0 0;" + "party 0 1;".repeat(50));
        due("the last party", many.ticketParty(many.issue(49, 0, 0)), 49);
        says("P17", "`ride`: index of a ride");
        due("the last ride", many.ticketRide(many.issue(49, 7, 0)), 7);
        says("P17", "`earliest`: the earliest slot, 0 to 143");
        due("least", many.ticketStart(many.issue(0, 0, 0)), 0);
        due("most", many.ticketStart(many.issue(1, 0, 143)), 143);
        says("P17", "Returns the index of the ticket;");
        due("the next one", many.issue(2, 0, 0), 4);
        due("the last one", crowded(149, false).issue(3, 4, 0), 149);
        says("P17", ALL_CODES);
        stays("RIDE_DOWN", Park.BUSY, x -> x.issue(0, Park.DOWN, 0), RIDE_DOWN);
        stays("DUPLICATE", Park.BUSY, x -> x.issue(2, 0, 0), DUPLICATE);
        stays("FULL", Park.FULL, x -> x.issue(0, 7, 0), FULL);
        stays("NO_WINDOW", Park.OVER, x -> x.issue(0, 0, 0), NO_WINDOW);
        stays("NO_WINDOW", Park.BUSY, x -> x.issue(0, 0, 100), NO_WINDOW);
        stays("NOT_ALLOWED", () -> crowded(9, false), x -> x.issue(1, 4, 0), NOT_ALLOWED);
        says("P17", "Throws `IndexOutOfBoundsException` if there is no such party or ride");
        noSuchParty((x, party) -> x.issue(party, 0, 0));
        noSuchRide((x, ride) -> x.issue(0, ride, 0));
        noIndex("the party comes before the slot", Park.BUSY, x -> x.issue(5, 0, 144));
        noIndex("the ride comes before the slot", Park.BUSY, x -> x.issue(0, 4, -1));
        says("P17", "Throws `IllegalArgumentException` if earliest is out of range");
        ranges("earliest", 0, 143, (x, slot) -> x.issue(0, 0, slot));
        noArgument("though the ride is down", Park.BUSY, x -> x.issue(0, Park.DOWN, 144));
        noArgument("though it is full", Park.FULL, x -> x.issue(0, 0, 144));
        noArgument("the present slot 144", Park.OVER, x -> x.issue(0, 0, 144));
    }

    private static void nextWindow() {
        says("P18", "Returns the start of the window that issue() would give.");
        for (int party = 0; party < Park.BUSY_PARTIES; party++) {
            for (int ride = 0; ride < Park.BUSY_RIDES; ride++) {
                for (int earliest : new int[] {0, 4, 8, 9, 10, 99, 100, 143}) {
                    VirtualQueue q = Park.BUSY.make();
                    int start = q.nextWindow(party, ride, earliest);
                    int ticket = q.issue(party, ride, earliest);
                    due("the start or code of " + party + " " + ride + " " + earliest, start, ticket < 0 ? ticket : q.ticketStart(ticket));
                }
            }
        }
        stays("it issues nothing", Park.BUSY, q -> q.nextWindow(0, 0, 0), 4);
        says("P18", "`party`: index of a party");
        VirtualQueue many = Checks.park("ride 20 50 1 0 143;".repeat(8) + "tier 5 144 0 0;" + "party 0 1;".repeat(50));
        due("the last party", many.nextWindow(49, 0, 3), 3);
        says("P18", "`ride`: index of a ride");
        due("the last ride", many.nextWindow(0, 7, 3), 3);
        says("P18", "`earliest`: the earliest slot, 0 to 143");
        due("least", many.nextWindow(0, 0, 0), 0);
        due("most", many.nextWindow(0, 0, 143), 143);
        says("P18", "Returns the slot;");
        due("with 149 tickets", crowded(149, false).nextWindow(3, 4, 143), 143);
        says("P18", ALL_CODES);
        stays("RIDE_DOWN", Park.BUSY, x -> x.nextWindow(0, Park.DOWN, 0), RIDE_DOWN);
        stays("DUPLICATE", Park.BUSY, x -> x.nextWindow(2, 0, 0), DUPLICATE);
        stays("FULL", Park.FULL, x -> x.nextWindow(0, 7, 0), FULL);
        stays("NO_WINDOW", Park.OVER, x -> x.nextWindow(0, 0, 0), NO_WINDOW);
        stays("NO_WINDOW", Park.BUSY, x -> x.nextWindow(0, 0, 100), NO_WINDOW);
        stays("NOT_ALLOWED", () -> crowded(9, false), x -> x.nextWindow(1, 4, 0), NOT_ALLOWED);
        says("P18", "Throws `IndexOutOfBoundsException` if there is no such party or ride");
        noSuchParty((x, party) -> x.nextWindow(party, 0, 0));
        noSuchRide((x, ride) -> x.nextWindow(0, ride, 0));
        noIndex("the party comes before the slot", Park.BUSY, x -> x.nextWindow(5, 0, 144));
        noIndex("the ride comes before the slot", Park.BUSY, x -> x.nextWindow(0, 4, -1));
        says("P18", "Throws `IllegalArgumentException` if earliest is out of range");
        ranges("earliest", 0, 143, (x, slot) -> x.nextWindow(0, 0, slot));
        noArgument("though the ride is down", Park.BUSY, x -> x.nextWindow(0, Park.DOWN, 144));
        noArgument("though it is full", Park.FULL, x -> x.nextWindow(0, 0, 144));
    }

    private static void joint() {
        says("P19", "Issues two tickets for the same window to two parties.");
        VirtualQueue q = Checks.park("ride 20 50 3 0 143;tier 5 144 0 0;party 0 4;party 0 6;");
        due("the first of all", q.issueJoint(0, 1, 0, 5), 0);
        due("party 0", Checks.ticket(q, 0), "0 0 5-7 state 0 extension 0");
        due("party 1", Checks.ticket(q, 1), "1 0 5-7 state 0 extension 0");
        due("both are charged", q.remaining(0, 5), 0);
        says("P19", "The checks of TICKETS are made for the first party and then for the second one, up to NOT_ALLOWED;");
        // party 0 has ride 0, 1 is at its limit, 2 must pause, 3 is free
        Maker full = () -> crowded(150, false);
        Maker down = () -> crowded(150, true);
        stays("down", down, x -> x.issueJoint(0, 1, 0, 0), RIDE_DOWN);
        stays("down", down, x -> x.issueJoint(3, 1, 4, 0), RIDE_DOWN);
        stays("a duplicate of the first", full, x -> x.issueJoint(0, 3, 0, 0), DUPLICATE);
        stays("a duplicate of the second", full, x -> x.issueJoint(3, 0, 0, 0), DUPLICATE);
        stays("a duplicate of the first, a limit of the second", full, x -> x.issueJoint(0, 1, 0, 0), DUPLICATE);
        stays("a limit of the first, a duplicate of the second", full, x -> x.issueJoint(1, 0, 0, 0), NOT_ALLOWED);
        stays("a pause of the first, a duplicate of the second", full, x -> x.issueJoint(2, 0, 0, 0), NOT_ALLOWED);
        stays("a limit of the first", full, x -> x.issueJoint(1, 3, 4, 0), NOT_ALLOWED);
        stays("a limit of the second", full, x -> x.issueJoint(3, 1, 4, 0), NOT_ALLOWED);
        stays("a pause of the first", full, x -> x.issueJoint(2, 3, 4, 0), NOT_ALLOWED);
        stays("a pause of the second", full, x -> x.issueJoint(3, 2, 4, 0), NOT_ALLOWED);
        says("P19", "then FULL is returned if there are more than 148 tickets;");
        stays("150", full, x -> x.issueJoint(3, 4, 5, 0), FULL);
        stays("149", () -> crowded(149, false), x -> x.issueJoint(3, 4, 5, 0), FULL);
        stays("148, but no window", () -> crowded(148, false), x -> x.issueJoint(3, 4, 5, 0), NO_WINDOW);
        VirtualQueue last = crowded(148, false);
        last.setShare(5, 100);
        due("148", last.issueJoint(3, 4, 5, 0), 148);
        due("then there are 150", last.ticketCount(), 150);
    }

    private static void jointSlots() {
        says("P19", "then the first slot is taken as in TICKETS that is within both horizons,");
        Maker maker = () -> Checks.park("ride 30 50 1 0 143;tier 5 10 0 0;tier 5 20 0 0;party 0 4;party 1 5;");
        for (int[] parties : new int[][] {{0, 1}, {1, 0}}) {
            VirtualQueue q = maker.make();
            due("at the smaller one", q.issueJoint(parties[0], parties[1], 0, 10), 0);
            due("at the smaller one", q.ticketStart(0) + " " + q.ticketStart(1), "10 10");
            stays("behind it", maker, x -> x.issueJoint(parties[0], parties[1], 0, 11), NO_WINDOW);
            stays("at the larger one", maker, x -> x.issueJoint(parties[0], parties[1], 0, 20), NO_WINDOW);
        }
        Maker last = () -> Checks.park("ride 30 50 1 3 5;tier 5 144 0 0;party 0 4;party 0 5;");
        VirtualQueue early = last.make();
        early.issueJoint(0, 1, 0, 0);
        due("the first slot of the ride", early.ticketStart(0), 3);
        VirtualQueue late = last.make();
        late.issueJoint(0, 1, 0, 5);
        due("the last slot of the ride", late.ticketStart(0), 5);
        stays("behind the last slot", last, x -> x.issueJoint(0, 1, 0, 6), NO_WINDOW);
        VirtualQueue now = later(last.make(), 5);
        now.issueJoint(0, 1, 0, 0);
        due("the present slot", now.ticketStart(0), 5);
        stays("no slot is left", () -> later(last.make(), 6), x -> x.issueJoint(0, 1, 0, 0), NO_WINDOW);
        says("P19", "for which the remaining capacity is at least the sum of both sizes,");
        String parties = "tier 5 144 0 0;party 0 12;party 0 12;party 0 1;";
        due("just enough", Checks.park("ride 24 100 1 0 0;" + parties).issueJoint(0, 1, 0, 0), 0);
        stays("one less", () -> Checks.park("ride 23 100 1 0 0;" + parties), x -> x.issueJoint(0, 1, 0, 0), NO_WINDOW);
        stays("enough for each alone", () -> Checks.park("ride 12 100 1 0 143;" + parties), x -> x.issueJoint(0, 1, 0, 0), NO_WINDOW);
        VirtualQueue q = Checks.park("ride 24 100 1 0 143;" + parties);
        q.issue(2, 0, 0);
        q.issueJoint(0, 1, 0, 0);
        due("the next slot", q.ticketStart(1) + " " + q.ticketStart(2), "1 1");
        says("P19", "and whose window has no slot in common with the window of an ACTIVE ticket of one of them.");
        for (int blocked = 0; blocked < 2; blocked++) {
            for (int[] slot : new int[][] {{7, 7}, {8, 15}, {14, 15}, {15, 15}}) {
                VirtualQueue b = Checks.park("ride 30 50 5 0 143;ride 30 50 3 0 143;tier 5 144 0 0;party 0 1;party 0 2;");
                b.issue(blocked, 0, 10);
                b.issueJoint(0, 1, 1, slot[0]);
                due("party " + blocked + " has 10-14, from " + slot[0], b.ticketStart(1), slot[1]);
            }
        }
    }

    private static void jointCalls() {
        says("P19", "`party`: index of a party; its ticket is issued first");
        VirtualQueue q = Checks.park("ride 200 50 1 0 143;".repeat(8) + "tier 5 144 0 0;" + "party 0 1;".repeat(50));
        due("the last party first", q.issueJoint(49, 0, 7, 0), 0);
        due("the last party first", q.ticketParty(0) + " " + q.ticketParty(1), "49 0");
        says("P19", "`other`: index of another party");
        due("the last party second", q.issueJoint(1, 49, 6, 9), 2);
        due("the last party second", q.ticketParty(2) + " " + q.ticketParty(3), "1 49");
        says("P19", "`ride`: index of a ride");
        due("the last ride", q.ticketRide(0) + " " + q.ticketRide(1), "7 7");
        says("P19", "`earliest`: the earliest slot, 0 to 143");
        due("least", q.ticketStart(q.issueJoint(2, 3, 0, 0)), 0);
        due("most", q.ticketStart(q.issueJoint(4, 5, 0, 143)), 143);
        says("P19", "Returns the index of the first ticket (the second one is the next);");
        due("the next two", q.issueJoint(6, 7, 0, 143), 8);
        due("the next two", q.ticketParty(8) + " " + q.ticketParty(9) + " of " + q.ticketCount(), "6 7 of 10");
        says("P19", ALL_CODES);
        stays("RIDE_DOWN", Park.BUSY, x -> x.issueJoint(0, 1, Park.DOWN, 0), RIDE_DOWN);
        stays("DUPLICATE", Park.BUSY, x -> x.issueJoint(0, 2, 0, 0), DUPLICATE);
        stays("NOT_ALLOWED", () -> crowded(9, false), x -> x.issueJoint(3, 1, 4, 0), NOT_ALLOWED);
        stays("FULL", Park.FULL, x -> x.issueJoint(0, 1, 7, 0), FULL);
        stays("NO_WINDOW", Park.OVER, x -> x.issueJoint(0, 1, 0, 0), NO_WINDOW);
        says("P19", "Throws `IndexOutOfBoundsException` if there is no such party, other party or ride");
        noSuchParty((x, party) -> x.issueJoint(party, 1, 0, 0));
        noSuchParty((x, party) -> x.issueJoint(1, party, 0, 0));
        noSuchRide((x, ride) -> x.issueJoint(0, 1, ride, 0));
        noIndex("twice the same that is not there", Park.BUSY, x -> x.issueJoint(5, 5, 0, 0));
        noIndex("the ride comes before the same party", Park.BUSY, x -> x.issueJoint(0, 0, 4, 0));
        noIndex("the ride comes before the slot", Park.BUSY, x -> x.issueJoint(0, 1, -1, 144));
        noIndex("the party comes before the slot", Park.BUSY, x -> x.issueJoint(-1, 1, 0, -1));
        says("P19", "Throws `IllegalArgumentException` if both parties are the same, or if earliest is out of range");
        for (int party : new int[] {0, 4}) {
            noArgument("twice party " + party, Park.BUSY, x -> x.issueJoint(party, party, 0, 0));
        }
        noArgument("twice the same, though the ride is down", Park.BUSY, x -> x.issueJoint(0, 0, Park.DOWN, 0));
        noArgument("twice the same, though it is full", Park.FULL, x -> x.issueJoint(49, 49, 7, 0));
        ranges("earliest", 0, 143, (x, slot) -> x.issueJoint(0, 1, 0, slot));
        noArgument("both", Park.BUSY, x -> x.issueJoint(0, 0, 0, 144));
    }
}
