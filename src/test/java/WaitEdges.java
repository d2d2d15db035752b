/** The edges of waitlists and lines: WAITLISTS, LINES, P34 to P39. */
final class WaitEdges extends Edges {
    static void all() {
        order();
        serving();
        leaving();
        joinWaitlist();
        leaveWaitlist();
        waitlistAt();
        lines();
        boarding();
        joinStandby();
        persons();
    }

    private static void order() {
        says("WAITLISTS", "Each ride has a waitlist of parties, ordered by the rank of their tiers, and for the same rank"
                + " in the order in which they joined.");
        VirtualQueue q = Checks.park("ride 20 50 1 0 143;".repeat(8) + "tier 1 9 0 9;tier 1 9 0 0;tier 1 9 0 5;tier 1 9 0 0;"
                + "party 0 1;party 1 1;party 2 1;party 3 1;party 0 1;party 1 1;");
        due("empty", Checks.waitlist(q, 0), "");
        for (int party = 0; party < 6; party++) {
            q.joinWaitlist(party, 0);
            q.joinWaitlist(5 - party, 7);
        }
        due("rank 0 twice by two tiers, then 5, then 9", Checks.waitlist(q, 0), "1 3 5 2 0 4 ");
        due("the last ride has its own", Checks.waitlist(q, 7), "5 3 1 2 4 0 ");
        due("the others are empty", Checks.waitlist(q, 3), "");
        VirtualQueue all = Park.FULL.make();
        for (int k = 0; k < 50; k++) {
            due("all 50 parties, position " + k, all.waitlistAt(7, k), k);
        }
    }

    /** Ride 0 has 6 places in each of the slots 2 and 3; 0, 1, 2 and 3 wait, with 6, 7, 5 and 2 persons. */
    private static VirtualQueue waiting() {
        VirtualQueue q = Checks.park("ride 6 100 1 2 3;ride 9 100 1 0 143;tier 1 144 0 0;tier 1 3 48 0;tier 1 1 0 0;"
                + "party 0 6;party 0 7;party 1 5;party 1 2;party 2 1;");
        for (int party = 0; party < 4; party++) {
            q.joinWaitlist(party, 0);
        }
        return q;
    }

    private static void serving() {
        says("WAITLISTS", "To serve the waitlist, its parties are considered in this order:");
        VirtualQueue q = waiting();
        due("two tickets", q.setShare(0, 100), 2);
        due("the first", Checks.ticket(q, 0), "0 0 2-2 state 0 extension 0");
        due("not the second, but the third", Checks.ticket(q, 1), "2 0 3-3 state 0 extension 0");
        due("the others stay in their order", Checks.waitlist(q, 0), "1 3 ");
        VirtualQueue empty = Park.SMALL.make();
        due("an empty waitlist", empty.setShare(0, 50), 0);
        says("WAITLISTS", "for each one it is tried to issue a ticket from the present slot on;");
        VirtualQueue later = waiting();
        later.advance(3);
        due("from slot 3 on", later.setShare(0, 100), 1);
        due("in slot 3", later.ticketStart(0), 3);
        VirtualQueue late = waiting();
        late.advance(4);
        due("behind the last slot", late.setShare(0, 100), 0);
        late.advance(140);
        due("the day is over", late.setShare(0, 100), 0);
        VirtualQueue horizon = waiting();
        horizon.joinWaitlist(4, 0);
        horizon.setShare(0, 100);
        due("slot 2 is behind the horizon of party 4", horizon.waitlistAt(0, 2), 4);
        VirtualQueue limit = waiting();
        limit.issue(0, 1, 9);
        due("party 0 is at its limit", limit.setShare(0, 100), 2);
        due("so the others get them", limit.ticketParty(1) + " " + limit.ticketParty(2), "2 3");
        VirtualQueue pause = waiting();
        pause.issue(3, 1, 3);
        pause.cancel(0);
        pause.leaveWaitlist(0, 0);
        pause.leaveWaitlist(1, 0);
        due("party 3 must pause", pause.setShare(0, 100) + " " + pause.ticketParty(1), "1 2");
        VirtualQueue down = waiting();
        down.breakDown(0);
        due("the ride is down", down.setShare(0, 100), 0);
        due("all stay", Checks.waitlist(down, 0), "0 1 2 3 ");
        due("it is up again", down.repair(0), 2);
        VirtualQueue full = Park.FULL.make();
        due("there are 150 tickets", full.setShare(7, 100), 0);
        due("all 50 stay", full.waitlistAt(7, 49), 49);
        VirtualQueue fifty = Checks.park("ride 50 0 1 0 0;tier 1 144 0 0;" + "party 0 1;".repeat(50));
        for (int party = 0; party < 50; party++) {
            fifty.joinWaitlist(party, 0);
        }
        due("all 50 at once", fifty.setShare(0, 100), 50);
        due("in their order", fifty.ticketParty(0) + " " + fifty.ticketParty(49), "0 49");
        says("WAITLISTS", "if that succeeds, the party leaves the waitlist.");
        due("all have left", fifty.waitlistAt(0, 0), NONE);
        due("only that one", Checks.waitlist(q, 0), "1 3 ");
    }

    private static void leaving() {
        says("WAITLISTS", "A party leaves the waitlist of a ride also if it gets a ticket for this ride otherwise.");
        String park = "ride 20 50 1 0 143;ride 20 50 1 0 143;tier 5 144 0 0;party 0 1;party 0 1;party 0 1;";
        VirtualQueue q = Checks.park(park);
        for (int party = 0; party < 3; party++) {
            q.joinWaitlist(party, 0);
            q.joinWaitlist(party, 1);
        }
        q.nextWindow(1, 0, 0);
        due("nextWindow() gives none", Checks.waitlist(q, 0), "0 1 2 ");
        q.issue(1, 0, 0);
        due("issue()", Checks.waitlist(q, 0), "0 2 ");
        due("not of another ride", Checks.waitlist(q, 1), "0 1 2 ");
        q.issueJoint(2, 0, 0, 5);
        due("issueJoint(), both", Checks.waitlist(q, 0), "");
        q.exchange(1, 1, 0);
        due("exchange()", Checks.waitlist(q, 1), "0 1 ");
        due("the last one", q.issue(1, 1, 0) >= 0 && q.issue(0, 1, 7) >= 0, true);
        due("nobody is left", Checks.waitlist(q, 1), "");
        VirtualQueue open = Checks.park("ride 20 50 1 0 143;ride 20 50 1 0 143;tier 5 144 0 0;party 0 1;extension 0;");
        open.issue(0, 0, 0);
        open.joinWaitlist(0, 1);
        open.breakDown(0);
        open.advance(1);
        open.redeemOpen(0, 1);
        due("an OPEN ticket is not for that ride", Checks.waitlist(open, 1), "0 ");
    }

    private static void joinWaitlist() {
        says("P34", "Lets a party join the waitlist of a ride.");
        due("while the ride is down", Park.BUSY.make().joinWaitlist(0, Park.DOWN), 1);
        due("when the day is over", Park.OVER.make().joinWaitlist(1, 0), 2);
        VirtualQueue small = Park.SMALL.make();
        due("though there is a window", small.joinWaitlist(0, 0), 0);
        due("no ticket is issued by that", small.ticketCount(), 0);
        says("P34", "`party`: index of a party");
        VirtualQueue many = Checks.park("ride 20 50 1 0 143;".repeat(8) + "tier 1 144 0 0;" + "party 0 1;".repeat(50));
        due("the first", many.joinWaitlist(0, 0), 0);
        due("the last", many.joinWaitlist(49, 0), 1);
        says("P34", "`ride`: index of a ride");
        due("the last", many.joinWaitlist(0, 7), 0);
        due("both", Checks.waitlist(many, 0) + "and " + Checks.waitlist(many, 7), "0 49 and 0 ");
        says("P34", "Returns its position on the waitlist then, from 0;");
        VirtualQueue ranks = Checks.park("ride 20 50 1 0 143;tier 1 144 0 0;tier 1 144 0 9;" + "party 1 1;".repeat(25) + "party 0 1;".repeat(25));
        for (int k = 0; k < 25; k++) {
            due("at the end", ranks.joinWaitlist(k, 0), k);
        }
        for (int k = 0; k < 25; k++) {
            due("before the others", ranks.joinWaitlist(25 + k, 0), k);
        }
        due("the last of 50", ranks.waitlistAt(0, 49), 24);
        ranks.leaveWaitlist(0, 0);
        due("position 49", ranks.joinWaitlist(0, 0), 49);
        says("P34", "DUPLICATE if it is on this waitlist already");
        stays("the first on it", Park.BUSY, q -> q.joinWaitlist(3, 0), DUPLICATE);
        stays("the last on it", Park.BUSY, q -> q.joinWaitlist(0, 0), DUPLICATE);
        stays("the last of 50", Park.FULL, q -> q.joinWaitlist(49, 7), DUPLICATE);
        stays("the ride is down", Park.BUSY, q -> q.joinWaitlist(1, Park.DOWN), DUPLICATE);
        says("P34", "or has an ACTIVE ticket for the ride.");
        stays("a ticket of the present slot", Park.BUSY, q -> q.joinWaitlist(2, 0), DUPLICATE);
        stays("a later one", Park.BUSY, q -> q.joinWaitlist(4, 1), DUPLICATE);
        due("a ticket for another ride", Park.BUSY.make().joinWaitlist(2, 1), 0);
        due("a USED one", Park.BUSY.make().joinWaitlist(0, Park.DOWN), 1);
        due("an EXPIRED one", Park.BUSY.make().joinWaitlist(1, 0), 2);
        due("a CANCELLED one", Park.BUSY.make().joinWaitlist(3, 1), 0);
        due("an OPEN one", Park.BUSY.make().joinWaitlist(2, 2), 0);
        says("P34", "Throws `IndexOutOfBoundsException` if there is no such party or ride");
        noSuchParty((q, party) -> q.joinWaitlist(party, 0));
        noSuchRide((q, ride) -> q.joinWaitlist(0, ride));
    }

    private static void leaveWaitlist() {
        says("P35", "Lets a party leave the waitlist of a ride.");
        VirtualQueue q = Park.FULL.make();
        due("one in the middle", q.leaveWaitlist(20, 7), true);
        due("those behind it move up", q.waitlistAt(7, 19) + " " + q.waitlistAt(7, 20) + " " + q.waitlistAt(7, 49), "19 21 -1");
        says("P35", "`party`: index of a party");
        due("the first", q.leaveWaitlist(0, 7), true);
        due("the last", q.leaveWaitlist(49, 7), true);
        due("47 are left", q.waitlistAt(7, 0) + " " + q.waitlistAt(7, 46) + " " + q.waitlistAt(7, 47), "1 48 -1");
        says("P35", "`ride`: index of a ride");
        VirtualQueue busy = Park.BUSY.make();
        due("the first", busy.leaveWaitlist(0, 0), true);
        due("the last", busy.leaveWaitlist(1, 3), true);
        says("P35", "Returns true;");
        due("the only one that is left", busy.leaveWaitlist(3, 0), true);
        due("none is left", Checks.waitlist(busy, 0), "");
        due("when the day is over", Park.OVER.make().leaveWaitlist(0, 0), true);
        says("P35", "false if it is not on this waitlist.");
        due("an empty one", busy.leaveWaitlist(3, 0), false);
        stays("an empty one", Park.SMALL, x -> x.leaveWaitlist(0, 0), false);
        stays("on another one", Park.BUSY, x -> x.leaveWaitlist(1, 0), false);
        stays("it has a ticket", Park.BUSY, x -> x.leaveWaitlist(2, 0), false);
        stays("a full waitlist of another ride", Park.FULL, x -> x.leaveWaitlist(0, 6), false);
        says("P35", "Throws `IndexOutOfBoundsException` if there is no such party or ride");
        noSuchParty((x, party) -> x.leaveWaitlist(party, 0));
        noSuchRide((x, ride) -> x.leaveWaitlist(0, ride));
    }

    private static void waitlistAt() {
        says("P36", "Returns a party of a waitlist.");
        stays("the first", Park.BUSY, q -> q.waitlistAt(0, 0), 3);
        stays("the second", Park.BUSY, q -> q.waitlistAt(0, 1), 0);
        says("P36", "`ride`: index of a ride");
        stays("the last ride", Park.BUSY, q -> q.waitlistAt(3, 0), 1);
        says("P36", "`index`: from 0");
        stays("the first", Park.FULL, q -> q.waitlistAt(7, 0), 0);
        says("P36", "Returns the party;");
        stays("the last", Park.FULL, q -> q.waitlistAt(7, 49), 49);
        says("P36", "NONE if the waitlist is not that long.");
        stays("one too many", Park.BUSY, q -> q.waitlistAt(0, 2), NONE);
        stays("behind all 50", Park.FULL, q -> q.waitlistAt(7, 50), NONE);
        stays("an empty one", Park.SMALL, q -> q.waitlistAt(0, 0), NONE);
        for (int index : new int[] {-1, MAX, MIN}) {
            stays("index " + index, Park.BUSY, q -> q.waitlistAt(0, index), NONE);
        }
        says("P36", "Throws `IndexOutOfBoundsException` if there is no such ride");
        noSuchRide((q, ride) -> q.waitlistAt(ride, 0));
        noIndex("with a wrong index too", Park.BUSY, q -> q.waitlistAt(4, -1));
    }

    /** All 150 tickets are OPEN, in slot 3, with 4 persons each; ride 7 takes the capacity and share that are asked for. */
    private static VirtualQueue allOpen(int capacity, int share) {
        VirtualQueue q = Checks.park("ride 200 100 1 0 143;".repeat(7) + "ride " + capacity + " " + share + " 1 0 143;tier 5 144 0 0;"
                + "party 0 4;".repeat(50) + "extension 0;");
        for (int k = 0; k < 150; k++) {
            q.issue(k % 50, k / 50, 0);
        }
        for (int ride = 0; ride < 3; ride++) {
            q.breakDown(ride);
        }
        q.advance(3);
        return q;
    }

    private static void lines() {
        says("LINES", "Each ride has a merge line (parties that have redeemed tickets)");
        VirtualQueue q = allOpen(200, 50);
        for (int k = 0; k < 150; k++) {
            due("ticket " + k, q.redeemOpen(k, 7), true);
        }
        due("all 150 in one line", q.mergePersons(7), 600);
        due("the other lines are empty", q.mergePersons(0) + q.mergePersons(6), 0);
        q.advance(1);
        due("200 in a slot", q.boarded(7, true) + " " + q.mergePersons(7), "200 400");
        q.advance(2);
        due("in three slots", q.boarded(7, true) + " " + q.mergePersons(7), "600 0");
        says("LINES", "and a standby line (at most 60 groups).");
        VirtualQueue line = Checks.park("ride 12 50 1 0 143;ride 12 50 1 0 143;");
        for (int k = 1; k <= 60; k++) {
            due("group " + k, line.joinStandby(1, 12), k);
        }
        due("one more", line.joinStandby(1, 1), FULL);
        due("the other line is empty", line.joinStandby(0, 12), 1);
        line.advance(1);
        due("one has boarded", line.joinStandby(1, 1), 60);
        due("one more", line.joinStandby(1, 1), FULL);
        line.advance(60);
        due("all have boarded", line.boarded(1, false) + " " + line.standbyPersons(1), (60 * 12 + 1) + " 0");
        says("LINES", "Both consist of groups with a size.");
        VirtualQueue sizes = Checks.park("ride 13 100 1 0 143;tier 5 144 0 0;party 0 1;party 0 12;");
        sizes.joinStandby(0, 1);
        sizes.joinStandby(0, 12);
        due("1 and 12", sizes.standbyPersons(0), 13);
        sizes.redeem(sizes.issue(0, 0, 0));
        sizes.redeem(sizes.issue(1, 0, 0));
        due("1 and 12", sizes.mergePersons(0), 13);
    }

    /** What a ride boards in one slot: merge groups (of OPEN tickets), standby groups. */
    private static String boards(int capacity, int share, int[] merge, int[] standby) {
        StringBuilder parties = new StringBuilder();
        for (int size : merge) {
            parties.append("party 0 ").append(size).append(';');
        }
        VirtualQueue q = Checks.park("ride " + capacity + " " + share + " 1 0 143;ride 200 100 1 0 143;tier 5 144 0 0;" + parties + "extension 0;");
        for (int party = 0; party < merge.length; party++) {
            q.issue(party, 1, 0);
        }
        q.breakDown(1);
        q.advance(1);
        for (int ticket = 0; ticket < merge.length; ticket++) {
            q.redeemOpen(ticket, 0);
        }
        for (int size : standby) {
            q.joinStandby(0, size);
        }
        q.advance(1);
        return q.boarded(0, true) + " " + q.boarded(0, false);
    }

    private static int[] groups(int... sizes) {
        return sizes;
    }

    private static void boarding() {
        says("LINES", "In a slot in which it is operating, a ride boards groups, always the first one of a line, a group as a whole:");
        due("no groups", boards(12, 50, groups(), groups()), "0 0");
        due("a group that is too large for the ride", boards(5, 100, groups(6, 1), groups()), "0 0");
        due("in the standby line", boards(5, 100, groups(), groups(6, 1)), "0 0");
        due("in both", boards(5, 100, groups(6, 1), groups(6, 1)), "0 0");
        due("just as large as the ride", boards(6, 100, groups(6, 1), groups(6, 1)), "6 0");
        due("in the standby line", boards(6, 0, groups(), groups(6, 1)), "0 6");
        says("LINES", "(a) from the merge line, as long as the persons boarded in this slot do not exceed the planned capacity;");
        due("just the planned capacity, then the standby line", boards(20, 50, groups(4, 6, 1), groups(10)), "10 10");
        due("one more would exceed it, so the standby line comes first", boards(20, 50, groups(4, 7, 1), groups(10)), "4 10");
        due("nothing is planned", boards(10, 0, groups(1), groups(10)), "0 10");
        due("all is planned", boards(10, 100, groups(10), groups(10)), "10 0");
        due("rounded down", boards(19, 50, groups(9), groups(10)), "9 10");
        due("rounded down", boards(19, 50, groups(10), groups(10)), "0 10");
        says("LINES", "(b) from the standby line, as long as they do not exceed the capacity;");
        due("just the capacity", boards(20, 50, groups(10), groups(4, 6, 1)), "10 10");
        due("one more would exceed it", boards(20, 50, groups(10), groups(4, 7, 1)), "10 4");
        due("without a merge line", boards(12, 50, groups(), groups(12, 1)), "0 12");
        says("LINES", "(c) from the merge line again, as long as they do not exceed the capacity.");
        due("just the capacity", boards(20, 50, groups(10, 4, 1), groups(6)), "14 6");
        due("one more would exceed it", boards(20, 50, groups(10, 5, 1), groups(6)), "10 6");
        due("beyond the planned capacity", boards(20, 0, groups(12, 8, 1), groups()), "20 0");
        due("behind a standby group that is too large", boards(20, 50, groups(8, 3, 9, 1), groups(12, 9)), "8 12");
        due("one place more", boards(23, 50, groups(8, 3, 1), groups(12, 9)), "11 12");
        says("LINES", "Each of the three ends at the first group that would exceed it.");
        due("(a): a smaller one behind waits", boards(12, 50, groups(4, 3, 1), groups(8)), "4 8");
        due("(b): a smaller one behind waits", boards(12, 50, groups(), groups(8, 5, 4)), "0 8");
        due("(c): a smaller one behind waits", boards(12, 50, groups(6, 3, 1), groups(4)), "6 4");
    }

    private static void joinStandby() {
        says("P37", "Lets a group join the standby line of a ride.");
        due("while the ride is down", Park.BUSY.make().joinStandby(Park.DOWN, 1), 3);
        due("before its first slot", Park.BUSY.make().joinStandby(1, 1), 2);
        due("when the day is over", Park.OVER.make().joinStandby(0, 1), 1);
        says("P37", "`ride`: index of a ride");
        VirtualQueue eight = Checks.park("ride 20 50 1 0 143;".repeat(8));
        due("the first", eight.joinStandby(0, 3), 1);
        due("the last", eight.joinStandby(7, 4), 1);
        due("both", eight.standbyPersons(0) + " " + eight.standbyPersons(7), "3 4");
        says("P37", "`size`: 1 to 12");
        due("least", eight.joinStandby(1, 1), 1);
        due("most", eight.joinStandby(1, 12), 2);
        due("both", eight.standbyPersons(1), 13);
        says("P37", "Returns the number of groups in this line then;");
        for (int k = 1; k <= 60; k++) {
            due("group " + k, eight.joinStandby(2, 1), k);
        }
        says("P37", "FULL if there are 60.");
        due("group 61", eight.joinStandby(2, 1), FULL);
        stays("group 61", Park.FULL, q -> q.joinStandby(7, 1), FULL);
        due("another line", Park.FULL.make().joinStandby(6, 1), 1);
        says("P37", "Throws `IndexOutOfBoundsException` if there is no such ride");
        noSuchRide((q, ride) -> q.joinStandby(ride, 1));
        noIndex("the ride comes before the size", Park.BUSY, q -> q.joinStandby(4, 0));
        noIndex("the ride comes before the size", Park.BUSY, q -> q.joinStandby(-1, 13));
        says("P37", "Throws `IllegalArgumentException` if size is out of range");
        ranges("size", 1, 12, (q, size) -> q.joinStandby(0, size));
        noArgument("though the line is full", Park.FULL, q -> q.joinStandby(7, 0));
        noArgument("though the line is full", Park.FULL, q -> q.joinStandby(7, 13));
    }

    private static void persons() {
        says("P38", "Returns the number of persons in the standby line of a ride.");
        stays("two groups", Park.BUSY, q -> q.standbyPersons(Park.DOWN), 17);
        stays("not those of the merge line", Park.BUSY, q -> q.standbyPersons(0), 0);
        says("P38", "`ride`: index of a ride");
        stays("the second", Park.BUSY, q -> q.standbyPersons(1), 7);
        says("P38", "Returns the number.");
        stays("least", Park.SMALL, q -> q.standbyPersons(0), 0);
        stays("most", Park.FULL, q -> q.standbyPersons(7), 720);
        says("P38", "Throws `IndexOutOfBoundsException` if there is no such ride");
        noSuchRide(VirtualQueue::standbyPersons);
        says("P39", "Returns the number of persons in the merge line of a ride.");
        stays("one group", Park.BUSY, q -> q.mergePersons(Park.DOWN), 4);
        stays("not those of the standby line", Park.BUSY, q -> q.mergePersons(1), 0);
        says("P39", "`ride`: index of a ride");
        stays("the first", Park.BUSY, q -> q.mergePersons(0), 0);
        says("P39", "Returns the number.");
        stays("least", Park.FULL, q -> q.mergePersons(7), 0);
        VirtualQueue most = Checks.park("ride 200 100 1 0 143;".repeat(3) + "ride 1 0 1 0 143;tier 5 144 0 0;" + "party 0 12;".repeat(50) + "extension 0;");
        for (int k = 0; k < 150; k++) {
            most.issue(k % 50, k / 50, k / 50);
        }
        for (int ride = 0; ride < 3; ride++) {
            most.breakDown(ride);
        }
        most.advance(144 - 1);
        int persons = 0;
        for (int ticket = 0; ticket < most.ticketCount(); ticket++) {
            persons += most.redeemOpen(ticket, 3) ? 12 : 0;
        }
        due("most", most.mergePersons(3) + " of " + persons, "1800 of 1800");
        says("P39", "Throws `IndexOutOfBoundsException` if there is no such ride");
        noSuchRide(VirtualQueue::mergePersons);
    }
}
