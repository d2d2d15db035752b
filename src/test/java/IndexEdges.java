/**
 * The places where one ride, tier, party, ticket or entry could be taken for another: in these parks no two are alike,
 * and what is asked for is seldom the first.
 */
final class IndexEdges extends Edges {
    // Planned are 20, 12 and 18 persons; no party has the size of another.
    private static final String MIXED = "ride 40 50 2 0 143;ride 30 40 3 3 99;ride 24 75 5 6 60;"
            + "tier 5 144 0 5;tier 3 40 0 1;tier 4 20 0 9;party 0 9;party 1 5;party 2 4;party 1 7;party 2 11;extension 9;";

    static void all() {
        pauses();
        joint();
        move();
        moveExtended();
        exchange();
        serving();
        lines();
        forecast();
        share();
        plans();
        served();
        waitlists();
        scripts();
    }

    private static void pauses() {
        says("TICKETS", "or fewer slots than the pause have passed since the slot in which a ticket was last issued to it");
        VirtualQueue q = Checks.park("ride 20 50 1 0 143;ride 20 50 1 0 143;ride 20 50 1 0 143;tier 5 144 3 0;tier 5 144 5 0;"
                + "party 0 1;party 1 1;party 0 1;party 1 1;");
        int[] issued = {2, 5, 7, 4};
        int[] again = {5, 10, 10, 9};
        for (int slot = 0; slot < 12; slot++) {
            for (int party = 0; party < 4; party++) {
                due("party " + party + " in slot " + slot, q.nextWindow(party, 1, 143), slot > issued[party] && slot < again[party] ? NOT_ALLOWED : 143);
                if (slot == issued[party]) {
                    due("its ticket", q.issue(party, 0, 100 + party) >= 0, true);
                    due("party " + party + " then", q.nextWindow(party, 1, 143), NOT_ALLOWED);
                }
            }
            q.advance(1);
        }
    }

    private static void joint() {
        Maker maker = () -> Checks.park(MIXED);
        says("P19", "then the first slot is taken as in TICKETS that is within both horizons,");
        jointIs(1, 2, 2, 20, 20);
        stays("40 and 20", maker, q -> q.issueJoint(1, 2, 2, 21), NO_WINDOW);
        jointIs(2, 1, 2, 20, 20);
        stays("20 and 40", maker, q -> q.issueJoint(2, 1, 2, 21), NO_WINDOW);
        jointIs(1, 3, 1, 40, 40);
        stays("40 and 40", maker, q -> q.issueJoint(1, 3, 1, 41), NO_WINDOW);
        jointIs(3, 1, 2, 40, 40);
        jointIs(0, 3, 0, 40, 40);
        stays("144 and 40", maker, q -> q.issueJoint(0, 3, 0, 41), NO_WINDOW);
        stays("40 and 144", maker, q -> q.issueJoint(3, 0, 0, 41), NO_WINDOW);
        says("P19", "for which the remaining capacity is at least the sum of both sizes,");
        jointIs(3, 4, 2, 0, 6);
        jointIs(4, 3, 2, 0, 6);
        stays("20 of 18", maker, q -> q.issueJoint(0, 4, 2, 0), NO_WINDOW);
        stays("20 of 18", maker, q -> q.issueJoint(4, 0, 2, 0), NO_WINDOW);
        jointIs(0, 4, 0, 0, 0);
        jointIs(1, 3, 1, 0, 3);
        stays("13 of 12", maker, q -> q.issueJoint(0, 2, 1, 0), NO_WINDOW);
        stays("13 of 12", maker, q -> q.issueJoint(2, 0, 1, 0), NO_WINDOW);
        jointWindows();
    }

    /** Party 3 has 30-31 and party 1 has 33-35, with the tickets 1 and 2; party 0 has 20-22. */
    private static void jointWindows() {
        says("P19", "and whose window has no slot in common with the window of an ACTIVE ticket of one of them.");
        int[][] cases = {{6, 6}, {20, 20}, {25, 25}, {26, 36}, {28, 36}, {32, 36}, {36, 36}};
        for (int[] c : cases) {
            for (int[] parties : new int[][] {{1, 3}, {3, 1}}) {
                VirtualQueue q = Checks.park(MIXED);
                q.issue(0, 1, 20);
                q.issue(3, 0, 30);
                q.issue(1, 1, 33);
                due("from " + c[0], q.issueJoint(parties[0], parties[1], 2, c[0]), 3);
                due("from " + c[0], q.ticketStart(3) + " " + q.ticketStart(4), c[1] + " " + c[1]);
            }
        }
    }

    private static void jointIs(int party, int other, int ride, int earliest, int start) {
        VirtualQueue q = Checks.park(MIXED);
        String what = party + " and " + other + " for ride " + ride + " from " + earliest;
        due(what, q.issueJoint(party, other, ride, earliest), 0);
        String window = " " + ride + " " + start + "-" + (start + new int[] {1, 2, 4}[ride]) + " state 0 extension 0";
        due(what, Checks.ticket(q, 0) + ", " + Checks.ticket(q, 1), party + window + ", " + other + window);
        due(what + ": charge", q.planned(ride, start) - q.remaining(ride, start), q.partySize(party) + q.partySize(other));
    }

    /** Ticket 3 is the one that is moved: party 1 has 12-16 for ride 2, and 30-31 for ride 0. */
    private static VirtualQueue fourTickets() {
        VirtualQueue q = Checks.park(MIXED);
        q.issue(0, 2, 6);
        q.issue(1, 0, 30);
        q.issue(3, 1, 20);
        due("the fourth", q.issue(1, 2, 12), 3);
        return q;
    }

    private static void moves(int earliest, int start) {
        VirtualQueue q = fourTickets();
        due("from " + earliest, q.moveTicket(3, earliest), start);
        due("from " + earliest, Checks.ticket(q, 3), "1 2 " + start + "-" + (start + 4) + " state 0 extension 0");
        due("the others stay", q.ticketStart(0) + " " + q.ticketStart(1) + " " + q.ticketStart(2), "6 30 20");
    }

    private static void move() {
        says("P20", "Moves an ACTIVE ticket to another window of its ride: a slot is taken as in TICKETS"
                + " (with the horizon, without the checks before it),");
        moves(0, 6);
        moves(18, 18);
        moves(25, 25);
        moves(26, 32);
        moves(28, 32);
        moves(31, 32);
        moves(40, 40);
        stays("behind the horizon of its party", IndexEdges::fourTickets, q -> q.moveTicket(3, 41), NO_WINDOW);
        VirtualQueue narrow = fourTickets();
        narrow.setShare(2, 63);
        narrow.issue(4, 2, 13);
        due("15 are planned, 11 are taken", narrow.remaining(2, 13), 4);
        due("4 places for 5 persons", narrow.moveTicket(3, 13), 14);
        VirtualQueue late = Checks.park(MIXED);
        late.advance(30);
        late.issue(0, 0, 30);
        late.issue(1, 2, 40);
        due("the last slot of ride 2", late.moveTicket(1, 60), 60);
        due("behind it, within the horizon", late.moveTicket(1, 61), NO_WINDOW);
        says("P20", "where the ticket itself neither blocks a window nor is charged.");
        moves(8, 8);
        moves(13, 13);
        moves(16, 16);
        VirtualQueue beside = fourTickets();
        beside.issue(4, 2, 12);
        due("18 are planned, 16 are taken", beside.remaining(2, 12), 2);
        due("5 of them by itself", beside.moveTicket(3, 12), 12);
        says("P20", "Its start, end and charge become those of the new window, its extension becomes 0.");
        VirtualQueue q = fourTickets();
        q.moveTicket(3, 6);
        due("charges", q.remaining(2, 6) + " " + q.remaining(2, 12) + " " + q.remaining(0, 30) + " " + q.remaining(1, 20), "4 18 15 5");
    }

    private static void moveExtended() {
        VirtualQueue q = fourTickets();
        q.advance(10);
        q.breakDown(2);
        q.advance(3);
        due("three slots more", Checks.ticket(q, 0), "0 2 6-13 state 0 extension 3");
        due("one slot more", Checks.ticket(q, 3), "1 2 12-17 state 0 extension 1");
        q.repair(2);
        due("moved", q.moveTicket(3, 14), 14);
        due("its extension", Checks.ticket(q, 3), "1 2 14-18 state 0 extension 0");
        due("the other one keeps its extension", Checks.ticket(q, 0), "0 2 6-13 state 0 extension 3");
    }

    /** Ticket 3 is the one that is exchanged: party 1 has 12-16 for ride 2, and 30-31 for ride 0. */
    private static VirtualQueue exchangeable() {
        VirtualQueue q = Checks.park(MIXED);
        q.issue(0, 1, 20);
        q.issue(1, 0, 30);
        q.issue(3, 2, 20);
        due("the fourth", q.issue(1, 2, 12), 3);
        return q;
    }

    private static void exchanges(int earliest, int start) {
        VirtualQueue q = exchangeable();
        due("from " + earliest, q.exchange(3, 1, earliest), 4);
        due("from " + earliest, Checks.ticket(q, 4), "1 1 " + start + "-" + (start + 2) + " state 0 extension 0");
        StringBuilder states = new StringBuilder();
        for (int ticket = 0; ticket < q.ticketCount(); ticket++) {
            states.append(q.ticketState(ticket));
        }
        due("states", states.toString(), "00030");
    }

    private static void exchange() {
        says("P21", "and a ticket for its party and the other ride is issued as in TICKETS, but without the check for NOT_ALLOWED,");
        exchanges(0, 3);
        exchanges(19, 19);
        exchanges(20, 21);
        exchanges(27, 27);
        exchanges(28, 32);
        exchanges(40, 40);
        stays("behind the horizon of its party", IndexEdges::exchangeable, q -> q.exchange(3, 1, 41), NO_WINDOW);
        VirtualQueue exact = exchangeable();
        exact.setShare(1, 47);
        due("14 are planned, 9 are taken", exact.exchange(3, 1, 20) + " " + exact.ticketStart(4), "4 20");
        VirtualQueue less = exchangeable();
        less.setShare(1, 46);
        due("13 are planned, 9 are taken", less.exchange(3, 1, 20) + " " + less.ticketStart(4), "4 21");
        VirtualQueue beside = Checks.park(MIXED);
        beside.issue(1, 2, 12);
        beside.issue(0, 1, 1);
        due("ticket 1 leaves 3 places in slot 3 for party 1", beside.exchange(0, 1, 1) + " " + beside.ticketStart(2), "2 4");
        says("P21", "and so that the old ticket does not block a window.");
        for (int earliest = 10; earliest <= 16; earliest++) {
            exchanges(earliest, earliest);
        }
    }

    /** The same with party 4 on the waitlist of ride 2 and party 2 on those of the rides 0 and 1. */
    private static VirtualQueue waiting() {
        VirtualQueue q = exchangeable();
        q.joinWaitlist(4, 2);
        q.joinWaitlist(2, 0);
        q.joinWaitlist(2, 1);
        return q;
    }

    private static void onlyRide2(VirtualQueue q, int ticket) {
        due("party 4 is served", Checks.ticket(q, ticket), "4 2 6-10 state 0 extension 0");
        due("nobody else is", q.ticketCount() + ": " + Checks.waitlist(q, 0) + Checks.waitlist(q, 1) + Checks.waitlist(q, 2),
                ticket + 1 + ": 2 2 ");
    }

    private static void serving() {
        says("P20", "Afterwards the waitlist of the ride is served.");
        VirtualQueue moved = waiting();
        due("moved", moved.moveTicket(3, 12), 12);
        onlyRide2(moved, 4);
        says("P21", "Afterwards the waitlist of the old ride is served.");
        for (int earliest : new int[] {0, 1, 2, 3, 32}) {
            VirtualQueue exchanged = waiting();
            due("exchanged", exchanged.exchange(3, 1, earliest), 4);
            onlyRide2(exchanged, 5);
        }
        says("P22", "Cancels an ACTIVE ticket and serves the waitlist of its ride.");
        VirtualQueue cancelled = waiting();
        due("cancelled", cancelled.cancel(3), 1);
        onlyRide2(cancelled, 4);
        says("P43", "Puts a ride into operation again and serves its waitlist.");
        VirtualQueue repaired = waiting();
        repaired.breakDown(2);
        due("repaired", repaired.repair(2), 1);
        onlyRide2(repaired, 4);
        says("P44", "Changes the share of a ride, and serves its waitlist.");
        VirtualQueue shared = waiting();
        due("share", shared.setShare(2, 100), 1);
        onlyRide2(shared, 4);
    }

    /** In slot 1, three rides with merge lines (of OPEN tickets) and standby lines. */
    private static VirtualQueue threeLines() {
        int[][] merge = {{3, 2, 4}, {6, 3, 7}, {9, 4, 2}};
        int[][] standby = {{4, 6}, {5, 9, 4}, {1, 2, 12}};
        StringBuilder parties = new StringBuilder();
        for (int[] line : merge) {
            for (int size : line) {
                parties.append("party 0 ").append(size).append(';');
            }
        }
        VirtualQueue q = Checks.park("ride 10 50 1 0 143;ride 20 40 1 0 143;ride 16 75 1 1 143;ride 200 100 1 0 143;tier 5 144 0 0;"
                + parties + "extension 0;");
        for (int party = 0; party < 9; party++) {
            q.issue(party, 3, 0);
        }
        q.breakDown(3);
        q.advance(1);
        for (int ticket = 0; ticket < 9; ticket++) {
            q.redeemOpen(ticket, ticket / 3);
        }
        for (int ride = 0; ride < 3; ride++) {
            for (int size : standby[ride]) {
                q.joinStandby(ride, size);
            }
        }
        return q;
    }

    private static String boardedBy(VirtualQueue q) {
        StringBuilder all = new StringBuilder();
        for (int ride = 0; ride < 3; ride++) {
            all.append(q.boarded(ride, true)).append('+').append(q.boarded(ride, false)).append(' ');
        }
        return all.toString();
    }

    private static void lines() {
        says("LINES", "In a slot in which it is operating, a ride boards groups, always the first one of a line, a group as a whole:");
        VirtualQueue q = threeLines();
        q.advance(1);
        due("slot 1", boardedBy(q), "5+4 6+14 13+3 ");
        due("who waits on", q.mergePersons(0) + " " + q.mergePersons(1) + " " + q.mergePersons(2) + " " + q.standbyPersons(0) + " "
                + q.standbyPersons(1) + " " + q.standbyPersons(2), "4 10 2 6 4 12");
        q.advance(1);
        due("slot 2", boardedBy(q), "9+10 16+18 15+15 ");
        due("waits", q.averageWait(0) + " " + q.averageWait(1) + " " + q.averageWait(2), 2 / 5.0 + " " + 3 / 6.0 + " " + 2 / 6.0);
        q.joinStandby(1, 2);
        q.breakDown(2);
        q.joinStandby(2, 3);
        q.advance(1);
        due("slot 3", boardedBy(q), "9+10 16+20 15+15 ");
    }

    private static void forecast() {
        says("P49", "Forecasts the waiting time of a group that would join the standby line of a ride now");
        VirtualQueue q = threeLines();
        for (int size = 1; size <= 12; size++) {
            due("ride 0, size " + size, q.forecastStandby(0, size), size <= 10 ? 2 : NONE);
            due("ride 1, size " + size, q.forecastStandby(1, size), 1);
            due("ride 2, size " + size, q.forecastStandby(2, size), size <= 2 ? 1 : 2);
        }
        // 6 persons do not board before the standby line, so 4 of it come first, then these 6, then 5, and then the 9
        VirtualQueue second = Checks.park("ride 10 50 1 0 143;ride 10 50 1 0 143;ride 200 100 1 0 143;tier 5 144 0 0;party 0 6;party 0 5;extension 0;");
        second.issue(0, 2, 0);
        second.issue(1, 2, 0);
        second.breakDown(2);
        second.advance(1);
        second.redeemOpen(0, 1);
        second.redeemOpen(1, 1);
        second.joinStandby(1, 4);
        second.joinStandby(1, 9);
        due("behind the two lines of ride 1", second.forecastStandby(1, 1) + " " + second.forecastStandby(1, 2), "2 3");
        due("the lines of ride 0 are empty", second.forecastStandby(0, 10), 0);
        VirtualQueue hours = Checks.park("ride 12 50 1 7 20;ride 9 50 1 5 30;ride 6 50 1 9 10;");
        due("the first slots", hours.forecastStandby(0, 1) + " " + hours.forecastStandby(1, 1) + " " + hours.forecastStandby(2, 1), "7 5 9");
        due("sizes", hours.forecastStandby(0, 12) + " " + hours.forecastStandby(1, 10) + " " + hours.forecastStandby(2, 7), "7 -1 -1");
        for (int ride = 0; ride < 3; ride++) {
            hours.joinStandby(ride, 6);
            hours.joinStandby(ride, 6);
        }
        due("behind two groups", hours.forecastStandby(0, 1) + " " + hours.forecastStandby(1, 3) + " " + hours.forecastStandby(2, 1), "8 6 -1");
        hours.advance(10);
        due("in slot 10", hours.forecastStandby(0, 1) + " " + hours.forecastStandby(1, 3) + " " + hours.forecastStandby(2, 1), "0 0 -1");
        says("P48", "Returns the longest waiting time of the groups that a ride has boarded (both lines).");
        hours.joinStandby(1, 1);
        hours.advance(1);
        due("each ride by itself", hours.longestWait(0) + " " + hours.longestWait(1) + " " + hours.longestWait(2), "7 6 10");
        says("P47", "Returns the average waiting time of all groups that a ride has boarded (both lines).");
        due("each ride by itself", hours.averageWait(0) + " " + hours.averageWait(1) + " " + hours.averageWait(2), "7.0 " + 11 / 3.0 + " 9.5");
        says("P49", "NONE if it would not board on this day.");
        hours.advance(10);
        due("in slot 21", hours.forecastStandby(0, 1) + " " + hours.forecastStandby(1, 3) + " " + hours.forecastStandby(2, 1), "-1 0 -1");
    }

    private static void share() {
        says("P44", "NOT_ALLOWED if in some slot from the present one on the remaining capacity would be negative with the new share.");
        Maker maker = () -> {
            VirtualQueue q = Checks.park(MIXED);
            q.issue(0, 0, 6);
            q.issue(4, 2, 6);
            q.issue(3, 1, 6);
            return q;
        };
        int[] enough = {23, 24, 46};
        for (int ride = 0; ride < 3; ride++) {
            int of = ride;
            stays("ride " + of, maker, q -> q.setShare(of, enough[of] - 1), NOT_ALLOWED);
            VirtualQueue q = maker.make();
            due("ride " + of, q.setShare(of, enough[of]) + " " + q.remaining(of, 6), "0 0");
        }
    }

    private static void plans() {
        says("P55", "Plans rides for a party: finds an order of some rides such that the last window ends as early as possible,");
        VirtualQueue sizes = Checks.park(MIXED);
        sizes.issue(2, 1, 3);
        due("4 of 12 are taken", sizes.bestFinish(3, 2) + " " + sizes.bestFinish(4, 2), "5 6");
        due("party 0", sizes.bestFinish(0, 2), 6);
        due("its own ticket", sizes.bestFinish(2, 2), 8);
        says("P56", "Returns a ride of the order of bestFinish().");
        VirtualQueue q = Checks.park("ride 20 50 2 0 143;ride 10 100 3 3 99;ride 24 75 5 6 60;tier 5 144 0 0;party 0 1;party 0 5;party 0 10;party 0 10;");
        q.issue(2, 1, 6);
        q.issue(3, 1, 7);
        q.issue(1, 0, 4);
        due("party 0", q.bestFinish(0, 6) + ": " + q.bestOrder(0, 6, 0) + " " + q.bestOrder(0, 6, 1), "10: 1 2");
        due("party 1", q.bestFinish(1, 6) + ": " + q.bestOrder(1, 6, 0) + " " + q.bestOrder(1, 6, 1), "13: 2 1");
    }

    private static void served() {
        says("P57", "and not after the present slot plus the horizon of its tier,");
        String park = "ride 9 100 1 0 0;ride 6 100 1 0 143;tier 1 3 0 0;tier 1 1 0 0;";
        VirtualQueue first = Checks.park(park + "party 0 6;party 1 6;party 1 6;party 1 6;");
        VirtualQueue last = Checks.park(park + "party 1 6;party 1 6;party 1 6;party 0 6;");
        for (int party = 0; party < 4; party++) {
            first.joinWaitlist(party, 1);
            last.joinWaitlist(party, 1);
        }
        due("the first may come until slot 3", first.mostServed(1) + ": " + first.servedSet(1), "3: 7");
        due("the last may", last.mostServed(1) + ": " + last.servedSet(1), "3: 11");
        VirtualQueue turned = Checks.park(park + "party 0 6;party 1 6;party 1 6;party 1 6;");
        for (int party : new int[] {1, 2, 3, 0}) {
            turned.joinWaitlist(party, 1);
        }
        due("party 0, the last to join, may", turned.mostServed(1) + ": " + turned.servedSet(1), "3: 11");
        due("nobody waits for ride 0", last.mostServed(0) + ": " + last.servedSet(0), "0: 0");
    }

    private static void waitlists() {
        says("P34", "Returns its position on the waitlist then, from 0;");
        VirtualQueue q = Checks.park("ride 20 50 1 0 143;".repeat(8) + "tier 1 9 0 0;" + "party 0 1;".repeat(50));
        for (int ride = 0; ride < 8; ride++) {
            for (int party = 0; party < 50; party++) {
                due("party " + party + " for ride " + ride, q.joinWaitlist(party, ride), party);
            }
        }
        says("P35", "Lets a party leave the waitlist of a ride.");
        due("only that of ride 3", q.leaveWaitlist(9, 3), true);
        for (int ride = 0; ride < 8; ride++) {
            due("ride " + ride, q.waitlistAt(ride, 8) + " " + q.waitlistAt(ride, 9) + " " + q.waitlistAt(ride, 49), ride == 3 ? "8 10 -1" : "8 9 49");
        }
    }

    private static void scripts() {
        says("INPUT", "When it is run, each entry is executed in its slot before this slot passes,");
        VirtualQueue scripted = Checks.park(MIXED);
        Checks.loadScript(scripted, "at 0 issue 1 0 5;at 0 issue 2 1 9;at 0 issue 3 2 20;at 0 wait 3 0;at 1 standby 2 7;at 1 standby 1 3;"
                + "at 2 break 1;at 3 cancel 1;at 5 redeem 0;at 6 repair 1;at 6 wait 0 1;at 7 break 2;");
        due("all twelve", scripted.runScript(10), 12);
        VirtualQueue called = Checks.park(MIXED);
        called.issue(1, 0, 5);
        called.issue(2, 1, 9);
        called.issue(3, 2, 20);
        called.joinWaitlist(3, 0);
        called.advance(1);
        called.joinStandby(2, 7);
        called.joinStandby(1, 3);
        called.advance(1);
        called.breakDown(1);
        called.advance(1);
        called.cancel(1);
        called.advance(2);
        called.redeem(0);
        called.advance(1);
        called.repair(1);
        called.joinWaitlist(0, 1);
        called.advance(1);
        called.breakDown(2);
        called.advance(3);
        unchanged("the same calls without a script", Probe.trace(scripted), Probe.trace(called));
        says("INPUT", "an entry succeeds if this does not throw an exception and returns neither false nor a negative number.");
        for (String entry : new String[] {"redeem 1", "cancel 1", "redeem 149", "cancel 149", "issue 0 3 0", "issue 5 0 0", "wait 0 3",
            "wait 5 0", "standby 3 1", "break 3", "repair 3"}) {
            VirtualQueue q = Checks.park(MIXED);
            Checks.loadScript(q, "at 0 issue 0 0 0;at 0 " + entry + ";at 0 issue 0 1 3;");
            due("ticket 0 is there, but not what is asked for by " + entry, q.runScript(1), 2);
            due("ticket 0 then", Checks.ticket(q, 0), "0 0 0-1 state 0 extension 0");
            due("what has boarded then", q.mergePersons(0) + q.boarded(0, true), 0);
        }
    }
}
