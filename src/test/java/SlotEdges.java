/** The edges of the passing of slots and of what is set for rides: A SLOT PASSES, P40 to P45. */
final class SlotEdges extends Edges {
    static void all() {
        boarding();
        extending();
        expiring();
        waiting();
        advance();
        isDown();
        breakDown();
        repair();
        setShare();
        setExtensionLimit();
    }

    private static VirtualQueue later(VirtualQueue q, int slots) {
        if (slots > 0) {
            q.advance(slots);
        }
        return q;
    }

    private static void boarding() {
        says("A SLOT PASSES", "(1) Each ride that is operating boards groups.");
        VirtualQueue q = Checks.park("ride 20 50 1 0 143;".repeat(5) + "ride 20 50 1 1 143;ride 20 50 1 0 143;ride 20 50 1 0 143;");
        for (int ride = 0; ride < 8; ride++) {
            q.joinStandby(ride, 1 + ride);
        }
        q.breakDown(6);
        q.advance(1);
        StringBuilder all = new StringBuilder();
        for (int ride = 0; ride < 8; ride++) {
            all.append(q.boarded(ride, false)).append(' ');
        }
        due("all but 5, which opens later, and 6, which is down", all.toString(), "1 2 3 4 5 0 0 8 ");
        says("A SLOT PASSES", "A SLOT PASSES in this order:");
        VirtualQueue last = Checks.park("ride 20 50 1 0 143;tier 5 144 0 0;party 0 4;");
        last.issue(0, 0, 143);
        last.advance(143);
        last.redeem(0);
        last.joinStandby(0, 5);
        last.advance(1);
        due("who came in the day's last slot boards in it", last.boarded(0, true) + " " + last.boarded(0, false), "4 5");
        says("A SLOT PASSES", "(4) The present slot increases by 1.");
        due("after the last one", last.now(), 144);
        due("after the first one", later(new VirtualQueue(), 1).now(), 1);
    }

    /** A ticket from 5 to 7, whose ride is down from a slot on; after so many slots in all. */
    private static String ticketAfter(int limit, int downFrom, int slots) {
        VirtualQueue q = Checks.park("ride 20 50 3 0 143;tier 5 144 0 0;party 0 4;extension " + limit + ";");
        q.issue(0, 0, 5);
        later(q, downFrom);
        q.breakDown(0);
        later(q, slots - downFrom);
        return q.ticketStart(0) + "-" + q.ticketEnd(0) + " " + q.ticketState(0) + " " + q.ticketExtension(0);
    }

    private static void extending() {
        noEdge("A SLOT PASSES", "by ascending number,", "no ticket matters to another one here, so no call can show their order");
        says("A SLOT PASSES", "(2) For each ACTIVE ticket,");
        VirtualQueue states = Park.BUSY.make();
        states.setExtensionLimit(48);
        states.breakDown(0);
        states.breakDown(1);
        states.breakDown(2);
        states.advance(1);
        due("ACTIVE", Checks.ticket(states, Park.NOW), "2 0 4-7 state 0 extension 1");
        due("USED", Checks.ticket(states, Park.USED), "0 3 0-0 state 1 extension 0");
        due("EXPIRED", Checks.ticket(states, Park.EXPIRED), "1 0 1-3 state 2 extension 0");
        due("CANCELLED", Checks.ticket(states, Park.CANCELLED), "3 1 9-10 state 3 extension 0");
        due("OPEN", Checks.ticket(states, Park.OPEN), "2 2 0-2 state 4 extension 1");
        VirtualQueue all = Park.FULL.make();
        all.breakDown(0);
        all.advance(1);
        due("all 50 of slot 0, the first", Checks.ticket(all, 0), "0 0 0-1 state 0 extension 1");
        due("all 50 of slot 0, the last", Checks.ticket(all, 49), "49 0 0-1 state 0 extension 1");
        due("not those of another ride", Checks.ticket(all, 50), "0 1 1-1 state 0 extension 0");
        says("A SLOT PASSES", "whose ride is down and whose window contains the present slot:");
        due("the slot before its start", ticketAfter(9, 0, 5), "5-7 0 0");
        due("its first slot", ticketAfter(9, 0, 6), "5-8 0 1");
        due("down from its last slot on", ticketAfter(9, 7, 8), "5-8 0 1");
        due("down from the slot behind its end on", ticketAfter(9, 8, 9), "5-7 2 0");
        VirtualQueue beyond = Checks.park("ride 20 50 24 0 143;tier 5 144 0 0;party 0 4;");
        beyond.issue(0, 0, 143);
        beyond.breakDown(0);
        beyond.advance(144);
        due("the day's last slot", Checks.ticket(beyond, 0), "0 0 143-167 state 0 extension 1");
        VirtualQueue up = Checks.park("ride 20 50 3 0 143;tier 5 144 0 0;party 0 4;");
        up.issue(0, 0, 5);
        up.breakDown(0);
        up.advance(5);
        up.repair(0);
        up.advance(1);
        due("repaired in its first slot", Checks.ticket(up, 0), "0 0 5-7 state 0 extension 0");
        VirtualQueue closed = Checks.park("ride 20 50 3 0 5;tier 5 144 0 0;party 0 4;");
        closed.issue(0, 0, 5);
        closed.advance(6);
        due("closed is not down", Checks.ticket(closed, 0), "0 0 5-7 state 0 extension 0");
        closed.breakDown(0);
        closed.advance(1);
        due("down behind its last slot", Checks.ticket(closed, 0), "0 0 5-8 state 0 extension 1");
        says("A SLOT PASSES", "if its extension is less than the extension limit, its end and its extension increase by 1;");
        VirtualQueue overlap = Checks.park("ride 20 50 3 0 143;ride 20 50 3 0 143;tier 5 144 0 0;party 0 4;extension 9;");
        overlap.issue(0, 0, 0);
        overlap.issue(0, 1, 3);
        overlap.breakDown(0);
        overlap.advance(3);
        due("into another window of the party", Checks.ticket(overlap, 0) + ", " + Checks.ticket(overlap, 1),
                "0 0 0-5 state 0 extension 3, 0 1 3-5 state 0 extension 0");
        overlap.breakDown(1);
        overlap.advance(1);
        due("both", Checks.ticket(overlap, 0) + ", " + Checks.ticket(overlap, 1),
                "0 0 0-6 state 0 extension 4, 0 1 3-6 state 0 extension 1");
        due("limit 1, once", ticketAfter(1, 5, 6), "5-8 0 1");
        due("limit 2, once", ticketAfter(2, 5, 6), "5-8 0 1");
        due("limit 2, twice", ticketAfter(2, 5, 7), "5-9 0 2");
        due("limit 48, 47 times", ticketAfter(48, 5, 52), "5-54 0 47");
        due("limit 48, 48 times", ticketAfter(48, 5, 53), "5-55 0 48");
        VirtualQueue twice = Checks.park("ride 20 50 3 0 143;tier 5 144 0 0;party 0 4;extension 2;");
        twice.issue(0, 0, 0);
        twice.breakDown(0);
        twice.advance(1);
        twice.repair(0);
        twice.advance(1);
        twice.breakDown(0);
        twice.advance(1);
        due("with a repair between", Checks.ticket(twice, 0), "0 0 0-4 state 0 extension 2");
        says("A SLOT PASSES", "otherwise it becomes OPEN (it is reissued).");
        twice.advance(1);
        due("with a repair between", Checks.ticket(twice, 0), "0 0 0-4 state 4 extension 2");
        due("limit 0", ticketAfter(0, 5, 6), "5-7 4 0");
        due("limit 1", ticketAfter(1, 5, 7), "5-8 4 1");
        due("limit 48", ticketAfter(48, 5, 54), "5-55 4 48");
        due("it stays as it is", ticketAfter(1, 5, 144), "5-8 4 1");
        due("limit 0, in its last slot", ticketAfter(0, 7, 8), "5-7 4 0");
    }

    private static void expiring() {
        says("A SLOT PASSES", "(3) Each ACTIVE ticket whose end is the present slot becomes EXPIRED.");
        int[][] cases = {{1, 0}, {2, 0}, {24, 0}, {1, 143}, {1, 77}};
        for (int[] c : cases) {
            VirtualQueue q = Checks.park("ride 20 50 " + c[0] + " 0 143;tier 5 144 0 0;party 0 4;");
            q.issue(0, 0, c[1]);
            int end = q.ticketEnd(0);
            later(q, end);
            due(c[0] + " from " + c[1] + " in its last slot", q.ticketState(0), ACTIVE);
            q.advance(1);
            due(c[0] + " from " + c[1] + " behind it", q.ticketState(0), EXPIRED);
        }
        VirtualQueue beyond = Checks.park("ride 20 50 2 0 143;tier 5 144 0 0;party 0 4;");
        beyond.issue(0, 0, 143);
        beyond.advance(144);
        due("its end 144 is no slot that passes", beyond.ticketState(0), ACTIVE);
        due("extended in its last slot", ticketAfter(9, 7, 8), "5-8 0 1");
        VirtualQueue extended = Checks.park("ride 20 50 1 0 143;tier 5 144 0 0;party 0 4;");
        extended.issue(0, 0, 0);
        extended.breakDown(0);
        extended.advance(1);
        extended.repair(0);
        due("extended", Checks.ticket(extended, 0), "0 0 0-1 state 0 extension 1");
        extended.advance(1);
        due("in the slot that it was extended to", extended.ticketState(0), EXPIRED);
        VirtualQueue open = Checks.park("ride 20 50 1 0 143;tier 5 144 0 0;party 0 4;extension 0;");
        open.issue(0, 0, 0);
        open.breakDown(0);
        open.advance(1);
        due("(2) comes first", open.ticketState(0), OPEN);
        VirtualQueue used = Park.BUSY.make();
        used.redeem(Park.NOW);
        used.cancel(Park.LATER);
        used.advance(140);
        due("USED stays", used.ticketState(Park.NOW), USED);
        due("CANCELLED stays", used.ticketState(Park.LATER), CANCELLED);
        due("OPEN stays", used.ticketState(Park.OPEN), OPEN);
        VirtualQueue all = later(Park.FULL.make(), 3);
        for (int ticket = 0; ticket < 150; ticket++) {
            due("all 150, ticket " + ticket, all.ticketState(ticket), EXPIRED);
        }
    }

    private static void waiting() {
        says("A SLOT PASSES", "The waiting time of a group is the slot in which it boards minus the slot in which it joined the line.");
        VirtualQueue q = Checks.park("ride 20 50 1 0 143;ride 20 50 1 143 143;ride 20 50 24 0 143;tier 5 144 0 0;party 0 4;");
        q.joinStandby(0, 1);
        q.joinStandby(1, 1);
        q.advance(1);
        due("in the same slot", q.longestWait(0) + " " + q.averageWait(0), "0 0.0");
        q.issue(0, 2, 1);
        q.redeem(0);
        q.breakDown(2);
        q.advance(1);
        q.repair(2);
        q.advance(1);
        due("a merge group, one slot", q.longestWait(2) + " " + q.averageWait(2), "1 1.0");
        q.advance(141);
        due("from slot 0 to 143", q.longestWait(1) + " " + q.averageWait(1), "143 143.0");
        // three groups, one a slot from slot 5 on, that have joined in the slots 0, 2 and 4: 5, 4 and 3 slots
        VirtualQueue standby = Checks.park("ride 12 50 1 5 143;");
        for (int slot = 0; slot < 5; slot += 2) {
            due("joins in slot " + slot, standby.now() + " " + standby.joinStandby(0, 12), slot + " " + (slot / 2 + 1));
            standby.advance(slot < 4 ? 2 : 1);
        }
        String[] due = {"5 5.0", "5 4.5", "5 4.0", "5 4.0"};
        for (int k = 0; k < 4; k++) {
            standby.advance(1);
            due("standby groups of different slots, " + k, standby.longestWait(0) + " " + standby.averageWait(0), due[k]);
        }
        mergeWaits();
    }

    /** Three parties with OPEN tickets join in the slots 1, 3 and 4, and board in the slots 5, 6 and 7. */
    private static void mergeWaits() {
        VirtualQueue q = Checks.park("ride 12 50 1 0 143;ride 200 100 24 0 143;tier 5 144 0 0;party 0 12;party 0 12;party 0 12;extension 0;");
        for (int party = 0; party < 3; party++) {
            q.issue(party, 1, 0);
        }
        q.breakDown(0);
        q.breakDown(1);
        int[] joins = {1, 3, 4};
        for (int ticket = 0; ticket < 3; ticket++) {
            q.advance(joins[ticket] - q.now());
            q.repair(0);
            due("joins in slot " + joins[ticket], q.redeemOpen(ticket, 0), true);
            q.breakDown(0);
        }
        q.advance(1);
        q.repair(0);
        String[] due = {"4 4.0", "4 3.5", "4 " + 10.0 / 3, "4 " + 10.0 / 3};
        for (int k = 0; k < 4; k++) {
            q.advance(1);
            due("merge groups of different slots, " + k, q.longestWait(0) + " " + q.averageWait(0), due[k]);
        }
    }

    private static void advance() {
        says("P40", "Lets slots pass, without a script.");
        VirtualQueue q = Park.BUSY.make();
        q.advance(140);
        due("no entry is executed", q.isDown(0) + " " + q.ticketCount(), "false 7");
        due("none is removed", q.scriptLength(), 4);
        says("P40", "`slots`: 1 to 144");
        due("least", Park.BUSY.make().advance(1), 5);
        due("most", Park.SMALL.make().advance(144), 144);
        due("most, without a park", new VirtualQueue().advance(144), 144);
        says("P40", "Returns the present slot after them.");
        due("one", Park.SMALL.make().advance(1), 1);
        due("up to the last slot", Park.BUSY.make().advance(139), 143);
        due("up to the end", Park.BUSY.make().advance(140), 144);
        VirtualQueue step = Park.BUSY.make();
        VirtualQueue leap = Park.BUSY.make();
        for (int k = 0; k < 100; k++) {
            step.advance(1);
        }
        leap.advance(100);
        due("one by one or at once", Probe.trace(step).equals(Probe.trace(leap)), true);
        says("P40", "Throws `IllegalArgumentException` if slots is out of range,");
        for (int slots : new int[] {0, -1, 145, MAX, MIN, MAX - 4, MAX - 3}) {
            noArgument("slots " + slots, Park.BUSY, x -> x.advance(slots));
            noArgument("slots " + slots, Park.NEW, x -> x.advance(slots));
        }
        says("P40", "or if the present slot would exceed 144");
        noArgument("to 145", Park.BUSY, x -> x.advance(141));
        noArgument("to 148", Park.BUSY, x -> x.advance(144));
        noArgument("the day is over", Park.OVER, x -> x.advance(1));
        noArgument("the day is over", Park.OVER, x -> x.advance(144));
        noArgument("from 143 on", () -> later(Park.BUSY.make(), 139), x -> x.advance(2));
    }

    private static void isDown() {
        says("P41", "Tells whether a ride is down.");
        stays("up", Park.BUSY, q -> q.isDown(0), false);
        stays("closed, but not down", Park.BUSY, q -> q.isDown(1), false);
        stays("repaired", Park.BUSY, q -> q.isDown(2), false);
        says("P41", "`ride`: index of a ride");
        stays("the last", Park.FULL, q -> q.isDown(7), false);
        says("P41", "Returns true if it is.");
        stays("down", Park.BUSY, q -> q.isDown(Park.DOWN), true);
        stays("when the day is over", Park.OVER, q -> q.isDown(Park.DOWN), true);
        says("P41", "Throws `IndexOutOfBoundsException` if there is no such ride");
        noSuchRide(VirtualQueue::isDown);
    }

    private static void breakDown() {
        says("P42", "Takes a ride down.");
        VirtualQueue q = Park.FULL.make();
        due("the first", q.breakDown(0), true);
        due("it is", q.isDown(0) + " " + q.isDown(1), "true false");
        says("P42", "`ride`: index of a ride");
        due("the last", q.breakDown(7), true);
        due("it is", q.isDown(7) + " " + q.isDown(6), "true false");
        says("P42", "Returns true;");
        due("a ride that is closed", Park.BUSY.make().breakDown(1), true);
        due("a ride that was repaired", Park.BUSY.make().breakDown(2), true);
        due("when the day is over", Park.OVER.make().breakDown(0), true);
        says("P42", "false if it is down already.");
        stays("down", Park.BUSY, x -> x.breakDown(Park.DOWN), false);
        due("twice", q.breakDown(7), false);
        due("still down", q.isDown(7), true);
        says("P42", "Throws `IndexOutOfBoundsException` if there is no such ride");
        noSuchRide(VirtualQueue::breakDown);
    }

    private static void repair() {
        says("P43", "Puts a ride into operation again and serves its waitlist.");
        VirtualQueue q = Park.BUSY.make();
        due("party 1 waits for it", q.repair(Park.DOWN), 1);
        due("it is up", q.isDown(Park.DOWN), false);
        due("from the present slot on", Checks.ticket(q, 7), "1 3 4-4 state 0 extension 0");
        due("other waitlists are not served", Checks.waitlist(q, 0), "3 0 ");
        q.advance(1);
        due("it boards again", q.boarded(Park.DOWN, true) + " " + q.boarded(Park.DOWN, false), "4 17");
        says("P43", "`ride`: index of a ride");
        VirtualQueue eight = Checks.park("ride 20 50 1 0 143;".repeat(8));
        eight.breakDown(0);
        eight.breakDown(7);
        due("the last", eight.repair(7), 0);
        due("the first", eight.repair(0), 0);
        says("P43", "Returns the number of tickets issued by that;");
        due("an empty waitlist", eight.breakDown(3) ? eight.repair(3) : NONE, 0);
        VirtualQueue fifty = Checks.park("ride 50 100 1 0 0;tier 1 144 0 0;" + "party 0 1;".repeat(50));
        fifty.breakDown(0);
        for (int party = 0; party < 50; party++) {
            fifty.joinWaitlist(party, 0);
        }
        due("all 50", fifty.repair(0), 50);
        VirtualQueue over = Park.OVER.make();
        due("when the day is over", over.repair(Park.DOWN), 0);
        due("when the day is over", over.isDown(Park.DOWN) + " " + Checks.waitlist(over, Park.DOWN), "false 1 ");
        VirtualQueue full = Park.FULL.make();
        full.breakDown(7);
        due("with 150 tickets", full.repair(7), 0);
        says("P43", "NONE if it is not down.");
        stays("up, though parties wait for it", Park.BUSY, x -> x.repair(0), NONE);
        stays("closed, but not down", Park.BUSY, x -> x.repair(1), NONE);
        stays("nothing has happened", Park.SMALL, x -> x.repair(0), NONE);
        due("twice", q.repair(Park.DOWN), NONE);
        says("P43", "Throws `IndexOutOfBoundsException` if there is no such ride");
        noSuchRide(VirtualQueue::repair);
    }

    /** Party 0 has 9 of 20 places in slot 5, party 1 has 4 in slot 6, and party 2 with 12 persons waits. */
    private static VirtualQueue charged() {
        VirtualQueue q = Checks.park("ride 20 50 1 5 6;tier 5 144 0 0;party 0 9;party 0 4;party 0 12;");
        q.issue(0, 0, 5);
        q.issue(1, 0, 6);
        q.joinWaitlist(2, 0);
        return q;
    }

    private static void setShare() {
        says("P44", "Changes the share of a ride, and serves its waitlist.");
        VirtualQueue q = charged();
        due("79 percent: 15 in each slot", q.setShare(0, 79) + " " + q.planned(0, 5), "0 15");
        due("80 percent: 16, and 12 are free in slot 6", q.setShare(0, 80), 1);
        due("the ticket", Checks.ticket(q, 2), "2 0 6-6 state 0 extension 0");
        due("nobody waits any more", Checks.waitlist(q, 0), "");
        VirtualQueue down = charged();
        down.breakDown(0);
        due("while it is down nobody is served", down.setShare(0, 100), 0);
        due("but the share changes", down.planned(0, 5) + " " + Checks.waitlist(down, 0), "20 2 ");
        VirtualQueue same = charged();
        due("the share that it has", same.setShare(0, 50), 0);
        says("P44", "`ride`: index of a ride");
        VirtualQueue full = Park.FULL.make();
        due("the last", full.setShare(7, 1), 0);
        due("only that one", full.planned(7, 0) + " " + full.planned(6, 0), "2 200");
        says("P44", "`share`: 0 to 100");
        due("least", full.setShare(7, 0) + " " + full.planned(7, 143), "0 0");
        due("most", full.setShare(7, 100) + " " + full.planned(7, 143), "0 200");
        says("P44", "Returns the number of tickets issued by that;");
        due("none", Park.SMALL.make().setShare(0, 100), 0);
        due("one", charged().setShare(0, 100), 1);
        says("P44", "NOT_ALLOWED if in some slot from the present one on the remaining capacity would be negative with the new share.");
        due("45 percent: 9", charged().setShare(0, 45), 0);
        stays("44 percent: 8", SlotEdges::charged, x -> x.setShare(0, 44), NOT_ALLOWED);
        stays("0 percent", SlotEdges::charged, x -> x.setShare(0, 0), NOT_ALLOWED);
        stays("44 percent in that slot", () -> later(charged(), 5), x -> x.setShare(0, 44), NOT_ALLOWED);
        VirtualQueue behind = later(charged(), 6);
        due("44 percent behind that slot", behind.setShare(0, 44), 0);
        due("20 percent: 4", behind.setShare(0, 20), 0);
        due("below nought in the past slot", behind.remaining(0, 5) + " " + behind.remaining(0, 6), "-5 0");
        stays("19 percent: 3", () -> later(charged(), 6), x -> x.setShare(0, 19), NOT_ALLOWED);
        due("0 percent behind all", later(charged(), 7).setShare(0, 0), 0);
        VirtualQueue last = Checks.park("ride 20 50 1 0 143;tier 5 144 0 0;party 0 10;");
        last.issue(0, 0, 143);
        last.advance(143);
        due("the day's last slot", last.setShare(0, 49), NOT_ALLOWED);
        last.advance(1);
        due("when the day is over", last.setShare(0, 0), 0);
        for (int[] c : new int[][] {{200, 99, 197}, {200, 99, 198}, {3, 67, 2}, {3, 66, 2}, {199, 1, 1}, {199, 1, 2}}) {
            roundedShare(c[0], c[1], c[2]);
        }
        VirtualQueue cancelled = charged();
        cancelled.cancel(0);
        due("a CANCELLED ticket is not charged", cancelled.setShare(0, 20), 0);
        VirtualQueue used = later(charged(), 5);
        used.redeem(0);
        due("a USED one is", used.setShare(0, 44), NOT_ALLOWED);
        says("P44", "Throws `IndexOutOfBoundsException` if there is no such ride");
        noSuchRide((x, ride) -> x.setShare(ride, 50));
        noIndex("the ride comes before the share", Park.BUSY, x -> x.setShare(4, 101));
        noIndex("the ride comes before the share", Park.BUSY, x -> x.setShare(-1, -1));
        says("P44", "Throws `IllegalArgumentException` if share is out of range");
        ranges("share", 0, 100, (x, share) -> x.setShare(0, share));
        noArgument("when the day is over", Park.OVER, x -> x.setShare(0, 101));
    }

    /** So many persons are charged to a slot; is a share good that is planned for just as many, or is it one too little? */
    private static void roundedShare(int capacity, int share, int persons) {
        Maker maker = () -> {
            StringBuilder parties = new StringBuilder();
            for (int rest = persons; rest > 0; rest -= 12) {
                parties.append("party 0 ").append(Math.min(rest, 12)).append(';');
            }
            VirtualQueue q = Checks.park("ride " + capacity + " 100 1 0 0;tier 5 144 0 0;" + parties);
            for (int party = 0; party < q.partyCount(); party++) {
                q.issue(party, 0, 0);
            }
            due("charged", capacity - q.remaining(0, 0), persons);
            return q;
        };
        int planned = capacity * share / 100;
        String what = share + " percent of " + capacity + " for " + persons;
        if (planned < persons) {
            stays(what, maker, q -> q.setShare(0, share), NOT_ALLOWED);
        } else {
            VirtualQueue q = maker.make();
            due(what, q.setShare(0, share) + " " + q.remaining(0, 0), "0 " + (planned - persons));
        }
        int less = (100 * persons - 1) / capacity;
        due("one percent less is too little", less * capacity / 100 < persons && (less + 1) * capacity / 100 >= persons, true);
        stays(less + " percent of " + capacity + " for " + persons, maker, q -> q.setShare(0, less), NOT_ALLOWED);
        due(less + 1 + " percent of " + capacity + " for " + persons, maker.make().setShare(0, less + 1), 0);
    }

    private static void setExtensionLimit() {
        says("P45", "Changes the extension limit.");
        VirtualQueue q = Checks.park("ride 20 50 1 0 143;tier 5 144 0 0;party 0 4;extension 1;");
        q.issue(0, 0, 0);
        q.breakDown(0);
        q.advance(1);
        q.setExtensionLimit(2);
        q.advance(1);
        due("raised in time", Checks.ticket(q, 0), "0 0 0-2 state 0 extension 2");
        q.setExtensionLimit(1);
        due("the ticket keeps what it has", Checks.ticket(q, 0), "0 0 0-2 state 0 extension 2");
        q.advance(1);
        due("lowered below it", Checks.ticket(q, 0), "0 0 0-2 state 4 extension 2");
        q.setExtensionLimit(48);
        q.advance(1);
        due("raised too late", Checks.ticket(q, 0), "0 0 0-2 state 4 extension 2");
        says("P45", "`limit`: 0 to 48");
        for (int limit : new int[] {0, 1, 47, 48}) {
            VirtualQueue x = Checks.park("ride 20 50 1 0 143;tier 5 144 0 0;party 0 4;");
            x.issue(0, 0, 0);
            x.breakDown(0);
            due("limit " + limit, x.setExtensionLimit(limit), true);
            x.advance(144);
            due("limit " + limit, x.ticketState(0) + " " + x.ticketExtension(0), "4 " + limit);
        }
        says("P45", "Returns true;");
        due("without a park", new VirtualQueue().setExtensionLimit(0), true);
        due("the limit that it has", Park.BUSY.make().setExtensionLimit(1), true);
        due("when the day is over", Park.OVER.make().setExtensionLimit(48), true);
        says("P45", "false if limit is out of range.");
        for (int limit : new int[] {-1, 49, MAX, MIN}) {
            stays("limit " + limit, Park.BUSY, x -> x.setExtensionLimit(limit), false);
            stays("limit " + limit, Park.NEW, x -> x.setExtensionLimit(limit), false);
        }
    }
}
