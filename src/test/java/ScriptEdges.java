/** The edges of running scripts, of snapshots and of the formatted text: INPUT (its last sentences), P59 to P64. */
final class ScriptEdges extends Edges {
    static void all() {
        likeTheMethods();
        inItsSlot();
        passedEntries();
        runScript();
        scriptLength();
        saveSnapshot();
        restoreSnapshot();
        format();
        formattedByte();
    }

    private static VirtualQueue later(VirtualQueue q, int slots) {
        if (slots > 0) {
            q.advance(slots);
        }
        return q;
    }

    /** An object with a script, which does not touch its buffer's text. */
    private static VirtualQueue with(VirtualQueue q, String script) {
        q.truncateInput(0);
        if (Checks.loadScript(q, script) < 0) {
            due("the script of a test: " + script, q.errorPosition(), "no error");
        }
        return q;
    }

    /** What an entry of the present slot does and whether it succeeds is what the method does and answers. */
    private static void like(Park park, String action, Ask method) {
        if (park.make().now() == 144) {
            return;
        }
        VirtualQueue scripted = with(park.make(), "at " + park.make().now() + " " + action + ";");
        VirtualQueue called = with(park.make(), "");
        Object got = answer(called, method);
        boolean good = got instanceof Integer ? (Integer) got >= 0 : got.equals(true);
        called.advance(1);
        due(action + " (" + park + ") succeeds", scripted.runScript(1), good ? 1 : 0);
        due(action + " (" + park + ") is removed", scripted.scriptLength(), 0);
        unchanged(action + " (" + park + "), like the method,", Probe.trace(scripted), Probe.trace(called));
    }

    private static void likeTheMethods() {
        says("INPUT", "like the method (issue(), redeem(), cancel(), joinWaitlist(), joinStandby(), breakDown(), repair());");
        likeEach(Park.BUSY, new int[] {0, 1, 2, 3, 4, 5, 49}, new int[] {0, 1, 2, 3, 4, 7}, new int[] {0, 1, 2, 3, 4, 5, 6, 7, 149});
        likeEach(Park.NEW, new int[] {0, 49}, new int[] {0, 7}, new int[] {0, 149});
        likeEach(Park.SMALL, new int[] {0, 1}, new int[] {0, 1}, new int[] {0});
        likeEach(Park.FULL, new int[] {0, 49}, new int[] {0, 7}, new int[] {0, 149});
        likeEach(Park.SHRUNK, new int[] {0, 1, 49}, new int[] {0, 1, 7}, new int[] {0, 149});
        says("INPUT", "an entry succeeds if this does not throw an exception and returns neither false nor a negative number.");
        VirtualQueue q = with(Park.SMALL.make(), "at 0 issue 0 0 0;at 0 redeem 0;at 0 cancel 0;at 0 wait 0 0;at 0 wait 0 0;at 0 standby 0 1;"
                + "at 0 break 0;at 0 break 0;at 0 repair 0;at 0 repair 0;at 0 issue 1 0 0;at 0 standby 1 1;");
        // issue (0), redeem (true), wait (0), standby (1), break (true), repair (1: the party that waits gets a ticket)
        due("six of twelve", q.runScript(1), 6);
        VirtualQueue zero = with(Park.SMALL.make(), "at 0 issue 0 0 0;at 0 cancel 0;at 0 break 0;at 0 repair 0;at 0 wait 0 0;");
        due("0 is no failure", zero.runScript(1), 5);
    }

    private static void likeEach(Park park, int[] parties, int[] rides, int[] tickets) {
        for (int party : parties) {
            for (int ride : rides) {
                like(park, "issue " + party + " " + ride + " 0", q -> q.issue(party, ride, 0));
                like(park, "issue " + party + " " + ride + " 143", q -> q.issue(party, ride, 143));
                like(park, "wait " + party + " " + ride, q -> q.joinWaitlist(party, ride));
            }
        }
        for (int ticket : tickets) {
            like(park, "redeem " + ticket, q -> q.redeem(ticket));
            like(park, "cancel " + ticket, q -> q.cancel(ticket));
        }
        for (int ride : rides) {
            like(park, "standby " + ride + " 1", q -> q.joinStandby(ride, 1));
            like(park, "standby " + ride + " 12", q -> q.joinStandby(ride, 12));
            like(park, "break " + ride, q -> q.breakDown(ride));
            like(park, "repair " + ride, q -> q.repair(ride));
        }
    }

    private static void inItsSlot() {
        says("INPUT", "When it is run, each entry is executed in its slot before this slot passes,");
        VirtualQueue first = with(Park.SMALL.make(), "at 0 standby 0 3;at 143 standby 0 4;");
        due("slot 0", first.runScript(1), 1);
        due("it boards in slot 0", first.boarded(0, false) + " " + first.longestWait(0), "3 0");
        due("nothing up to 142", first.runScript(142), 0);
        due("slot 143", first.runScript(1), 1);
        due("it boards in slot 143", first.boarded(0, false) + " " + first.longestWait(0), "7 0");
        VirtualQueue order = with(Park.SMALL.make(), "at 1 break 0;at 1 standby 0 1;at 2 repair 0;at 2 standby 0 2;");
        due("all four", order.runScript(3), 4);
        due("slot 1 passes while it is down", order.longestWait(0) + " " + order.boarded(0, false), "1 3");
        VirtualQueue forty = with(Park.SMALL.make(), "at 5 standby 0 1;".repeat(40));
        due("not before slot 5", forty.runScript(5), 0);
        due("forty in one slot", forty.runScript(1), 40);
        due("10 of them board", forty.boarded(0, false) + " " + forty.standbyPersons(0), "10 30");
    }

    private static void passedEntries() {
        says("INPUT", "Entries of slots that have passed already are removed by runScript(), before its next entry, without being executed;");
        VirtualQueue q = with(Park.SMALL.make(), "at 0 standby 0 1;at 3 standby 0 1;at 4 standby 0 1;at 5 standby 0 1;");
        q.advance(4);
        due("only that of slot 4", q.runScript(1), 1);
        due("two have gone with it", q.scriptLength(), 1);
        due("one group", q.boarded(0, false), 1);
        VirtualQueue none = with(Park.SMALL.make(), "at 0 standby 0 1;at 9 standby 0 1;");
        none.advance(1);
        due("no entry is due", none.runScript(1), 0);
        due("the passed one has gone", none.scriptLength(), 1);
        VirtualQueue all = later(with(Park.SMALL.make(), "at 142 standby 0 1;".repeat(40)), 143);
        due("all have passed", all.runScript(1) + " " + all.scriptLength(), "0 0");
        VirtualQueue late = later(Park.SMALL.make(), 5);
        with(late, "at 4 standby 0 1;at 5 standby 0 2;");
        due("loaded too late", late.runScript(1) + " " + late.boarded(0, false), "1 2");
        VirtualQueue back = with(Park.SMALL.make(), "at 0 standby 0 1;at 1 standby 0 1;");
        back.saveSnapshot(0);
        back.runScript(2);
        back.restoreSnapshot(0);
        due("what was executed does not come again", back.now() + " " + back.runScript(2), "0 0");
        says("INPUT", "advance() removes none.");
        VirtualQueue kept = with(Park.SMALL.make(), "at 0 standby 0 1;at 143 standby 0 1;");
        kept.advance(144);
        due("all are there", kept.scriptLength(), 2);
        due("none was executed", kept.boarded(0, false), 0);
    }

    private static void runScript() {
        says("P59", "Lets slots pass and executes the script.");
        VirtualQueue q = Park.BUSY.make();
        due("slots 4 to 8", q.runScript(5), 2);
        due("the present slot", q.now(), 9);
        due("without a script", Park.SMALL.make().runScript(9), 0);
        VirtualQueue same = Park.SMALL.make();
        VirtualQueue other = Park.SMALL.make();
        same.runScript(100);
        other.advance(100);
        unchanged("without a script, like advance(),", Probe.trace(same), Probe.trace(other));
        says("P59", "`slots`: 1 to 144");
        VirtualQueue least = Park.SMALL.make();
        due("least", least.runScript(1) + " " + least.now(), "0 1");
        VirtualQueue most = with(Park.SMALL.make(), "at 0 break 0;at 143 repair 0;");
        due("most", most.runScript(144) + " " + most.now(), "2 144");
        VirtualQueue none = new VirtualQueue();
        due("most, without a park", none.runScript(144) + " " + none.now(), "0 144");
        says("P59", "Returns the number of entries that succeeded.");
        due("all 40", with(Park.SMALL.make(), "at 0 break 0;at 0 repair 0;".repeat(20)).runScript(1), 40);
        due("none of 40", with(Park.SMALL.make(), "at 0 repair 0;".repeat(40)).runScript(1), 0);
        due("one of 40", with(Park.SMALL.make(), "at 0 break 0;".repeat(40)).runScript(1), 1);
        says("P59", "Throws `IllegalArgumentException` if slots is out of range,");
        for (int slots : new int[] {0, -1, 145, MAX, MIN, MAX - 4, MAX - 3}) {
            noArgument("slots " + slots, Park.BUSY, x -> x.runScript(slots));
            noArgument("slots " + slots, Park.NEW, x -> x.runScript(slots));
        }
        says("P59", "or if the present slot would exceed 144");
        VirtualQueue end = Park.BUSY.make();
        due("to 144", end.runScript(140) + " " + end.now(), "4 144");
        noArgument("to 145", Park.BUSY, x -> x.runScript(141));
        noArgument("to 148", Park.BUSY, x -> x.runScript(144));
        noArgument("the day is over", Park.OVER, x -> x.runScript(1));
        noArgument("the day is over", Park.OVER, x -> x.runScript(144));
        noArgument("from 143 on", () -> later(Park.BUSY.make(), 139), x -> x.runScript(2));
    }

    private static void scriptLength() {
        says("P60", "Returns the number of entries of the script that are left.");
        stays("all", Park.BUSY, VirtualQueue::scriptLength, 4);
        VirtualQueue q = Park.BUSY.make();
        q.runScript(2);
        due("before slot 6", q.scriptLength(), 4);
        q.runScript(1);
        due("behind slot 6", q.scriptLength(), 3);
        q.runScript(14);
        due("behind slot 20", q.scriptLength(), 0);
        says("P60", "Returns 0 to 40.");
        stays("least", Park.NEW, VirtualQueue::scriptLength, 0);
        stays("most", Park.FULL, VirtualQueue::scriptLength, 40);
    }

    private static void saveSnapshot() {
        says("P61", "Saves a snapshot of everything except the input buffer, the error, the script and the formatted text;");
        for (Park park : Park.values()) {
            for (int slot = 0; slot < 2; slot++) {
                VirtualQueue q = park.make();
                q.saveSnapshot(slot);
                disturb(q);
                due(park + " comes back", q.restoreSnapshot(slot), true);
                due(park + " is as before", Probe.day(withoutScript(q)), Probe.day(withoutScript(park.make())));
                futureIs(park, q);
            }
        }
        VirtualQueue q = Park.BUSY.make();
        q.saveSnapshot(0);
        q.truncateInput(5);
        Checks.loadScript(q, "at 5");
        Checks.put(q, "abc");
        with(q, "at 99 break 0;");
        Checks.put(q, "abc");
        q.formatItinerary(2);
        q.restoreSnapshot(0);
        due("not the buffer", Probe.bufferLength(q), 3);
        due("not the error", q.errorCode() + " " + q.errorPosition(), "0 -1");
        due("not the script", q.scriptLength(), 1);
        due("not the text", Checks.formatted(q), "0@4-6;");
        says("P61", "it replaces an earlier one in the same slot.");
        VirtualQueue twice = Park.SMALL.make();
        twice.saveSnapshot(0);
        twice.advance(5);
        twice.saveSnapshot(1);
        twice.advance(5);
        twice.saveSnapshot(0);
        twice.advance(5);
        due("slot 0", twice.restoreSnapshot(0) + " " + twice.now(), "true 10");
        due("slot 1 is not replaced", twice.restoreSnapshot(1) + " " + twice.now(), "true 5");
        says("P61", "`slot`: 0 or 1");
        VirtualQueue both = Park.SMALL.make();
        due("0", both.saveSnapshot(0), true);
        due("1", both.saveSnapshot(1), true);
        says("P61", "Returns true;");
        due("without a park", new VirtualQueue().saveSnapshot(0), true);
        due("when the day is over", Park.OVER.make().saveSnapshot(1), true);
        says("P61", "false if slot is out of range.");
        for (int slot : new int[] {-1, 2, MAX, MIN}) {
            stays("slot " + slot, Park.BUSY, x -> x.saveSnapshot(slot), false);
            stays("slot " + slot, Park.NEW, x -> x.saveSnapshot(slot), false);
        }
    }

    private static VirtualQueue withoutScript(VirtualQueue q) {
        return with(q, "");
    }

    /** Changes something of everything that there is. */
    private static void disturb(VirtualQueue q) {
        q.setExtensionLimit(47);
        for (int ride = 0; ride < q.rideCount(); ride++) {
            if (q.isDown(ride)) {
                q.repair(ride);
            } else {
                q.breakDown(ride);
            }
            q.joinStandby(ride, 2);
            q.setShare(ride, 99);
            for (int party = 0; party < q.partyCount(); party++) {
                if (!q.leaveWaitlist(party, ride)) {
                    q.joinWaitlist(party, ride);
                }
            }
        }
        for (int ticket = 0; ticket < q.ticketCount(); ticket += 2) {
            q.redeem(ticket);
            q.cancel(ticket);
        }
        if (q.tierCount() > 0) {
            q.addParty(0, 11);
            q.issue(q.partyCount() - 1, 1 % q.rideCount(), 0);
        }
        if (q.now() < 144) {
            q.advance(144 - q.now());
        }
    }

    /** What cannot be seen at once (the extension limit, who joined when) shows itself later in the day. */
    private static void futureIs(Park park, VirtualQueue q) {
        VirtualQueue fresh = park.make();
        for (VirtualQueue x : new VirtualQueue[] {q, fresh}) {
            for (int ride = 0; ride < x.rideCount(); ride++) {
                x.repair(ride);
            }
            later(x, Math.min(2, 144 - x.now()));
            for (int ride = 0; ride < x.rideCount(); ride++) {
                x.breakDown(ride);
            }
            later(x, Math.min(30, 144 - x.now()));
        }
        due(park + " goes on as before", Probe.day(withoutScript(q)), Probe.day(withoutScript(fresh)));
    }

    private static void restoreSnapshot() {
        says("P62", "Restores a snapshot.");
        VirtualQueue q = Park.BUSY.make();
        due("that of slot 2 of the day", q.restoreSnapshot(1), true);
        due("the present slot, and the tickets then", q.now() + " " + q.ticketCount() + " " + q.ticketState(Park.OPEN), "2 6 4");
        VirtualQueue back = Park.OVER.make();
        due("when the day is over", back.restoreSnapshot(1) + " " + back.now(), "true 2");
        due("the day goes on", back.advance(142), 144);
        snapshotOfTickets();
        says("P62", "The snapshot stays in its slot.");
        for (int k = 0; k < 3; k++) {
            later(q, 9);
            due("again", q.restoreSnapshot(1) + " " + q.now() + " " + q.ticketCount(), "true 2 6");
        }
        VirtualQueue kept = Park.SMALL.make();
        kept.saveSnapshot(0);
        kept.restoreSnapshot(0);
        kept.issue(0, 0, 0);
        kept.joinStandby(0, 1);
        kept.joinWaitlist(0, 0);
        kept.addParty(0, 1);
        kept.breakDown(0);
        due("what is done after it does not reach it", kept.restoreSnapshot(0), true);
        due("it is as it was saved", Probe.day(kept), Probe.day(Park.SMALL.make()));
        says("P62", "`slot`: 0 or 1");
        VirtualQueue both = Park.SMALL.make();
        both.saveSnapshot(0);
        both.advance(1);
        both.saveSnapshot(1);
        both.advance(1);
        due("0", both.restoreSnapshot(0) + " " + both.now(), "true 0");
        due("1", both.restoreSnapshot(1) + " " + both.now(), "true 1");
        says("P62", "Returns true;");
        VirtualQueue empty = new VirtualQueue();
        empty.saveSnapshot(1);
        due("of no park", empty.restoreSnapshot(1), true);
        says("P62", "false if slot is out of range");
        for (int slot : new int[] {-1, 2, MAX, MIN}) {
            stays("slot " + slot, Park.BUSY, x -> x.restoreSnapshot(slot), false);
            stays("slot " + slot, Park.FULL, x -> x.restoreSnapshot(slot), false);
        }
        says("P62", "or has no snapshot.");
        stays("slot 0", Park.BUSY, x -> x.restoreSnapshot(0), false);
        stays("slot 0", Park.NEW, x -> x.restoreSnapshot(0), false);
        stays("slot 1", Park.NEW, x -> x.restoreSnapshot(1), false);
        stays("slot 1", Park.SMALL, x -> x.restoreSnapshot(1), false);
        VirtualQueue again = Park.FULL.make();
        again.truncateInput(0);
        Checks.loadPark(again, "extension 9");
        due("a park with an error leaves them", again.restoreSnapshot(0), true);
        again.loadPark();
        due("a park takes them away", again.restoreSnapshot(0) || again.restoreSnapshot(1), false);
    }

    /** All of a ticket comes back, also where another ticket has had its number, or the ticket has been moved. */
    private static void snapshotOfTickets() {
        VirtualQueue q = Checks.park("ride 20 50 3 0 143;ride 20 50 2 0 143;tier 5 144 0 0;party 0 4;party 0 5;party 0 6;");
        q.saveSnapshot(0);
        q.issue(0, 0, 5);
        q.issue(1, 1, 0);
        q.breakDown(1);
        q.advance(1);
        q.saveSnapshot(1);
        String first = "0 0 5-7 state 0 extension 0";
        String second = "1 1 0-2 state 0 extension 1";
        due("before", Checks.ticket(q, 0) + ", " + Checks.ticket(q, 1), first + ", " + second);
        q.restoreSnapshot(0);
        due("without tickets", q.ticketCount(), 0);
        q.cancel(q.issue(2, 1, 9));
        q.redeem(q.issue(0, 0, 0));
        q.restoreSnapshot(1);
        due("other tickets had these numbers", Checks.ticket(q, 0) + ", " + Checks.ticket(q, 1), first + ", " + second);
        due("moved", q.moveTicket(0, 30), 30);
        q.restoreSnapshot(1);
        due("in its old window again", Checks.ticket(q, 0), first);
        due("charged to its old slot again", q.remaining(0, 5) + " " + q.remaining(0, 30), "6 10");
    }

    private static void format() {
        says("P63", "Formats the itinerary of a party: for each ACTIVE ticket, in the order of itinerary(), the ride, the"
                + " character @, the start, a hyphen, the end and a semicolon.");
        VirtualQueue q = Checks.park("ride 20 50 1 0 143;".repeat(7) + "ride 20 50 24 0 143;tier 5 144 0 0;party 0 1;party 0 2;");
        int[][] tickets = {{0, 99}, {1, 9}, {2, 100}, {3, 0}, {7, 143}};
        for (int[] t : tickets) {
            q.issue(0, t[0], t[1]);
        }
        String due = "3@0-0;1@9-9;0@99-99;2@100-100;7@143-166;";
        due("one, two and three digits", q.formatItinerary(0), due.length());
        due("one, two and three digits", Checks.formatted(q), due);
        q.cancel(1);
        q.redeem(3);
        q.formatItinerary(0);
        due("only ACTIVE ones", Checks.formatted(q), "0@99-99;2@100-100;7@143-166;");
        due("the other party", q.formatItinerary(1) + Checks.formatted(q), "0");
        VirtualQueue ten = Checks.park("ride 20 50 2 0 143;".repeat(4) + "tier 5 144 0 0;party 0 1;extension 48;");
        for (int[] t : new int[][] {{0, 8}, {1, 10}, {2, 98}, {3, 109}}) {
            ten.issue(0, t[0], t[1]);
        }
        ten.formatItinerary(0);
        due("where digits change", Checks.formatted(ten), "0@8-9;1@10-11;2@98-99;3@109-110;");
        VirtualQueue down = Checks.park("ride 20 50 24 0 143;tier 5 144 0 0;party 0 1;extension 48;");
        down.issue(0, 0, 77);
        down.advance(77);
        down.breakDown(0);
        down.advance(47);
        down.formatItinerary(0);
        due("an extended one", Checks.formatted(down), "0@77-147;");
        says("P63", "`party`: index of a party");
        VirtualQueue full = Park.FULL.make();
        due("the first", full.formatItinerary(0), 18);
        due("the last", full.formatItinerary(49) + Checks.formatted(full), "180@0-0;1@1-1;2@2-2;");
        says("P63", "Returns the number of bytes of the text.");
        due("none", Park.SMALL.make().formatItinerary(0), 0);
        VirtualQueue most = Checks.park("ride 20 50 1 0 143;".repeat(5) + "tier 5 144 0 0;party 0 1;");
        for (int ride = 0; ride < 5; ride++) {
            most.issue(0, ride, 139 + ride);
        }
        due("most", most.formatItinerary(0), 50);
        due("most", Checks.formatted(most), "0@139-139;1@140-140;2@141-141;3@142-142;4@143-143;");
        says("P63", "Throws `IndexOutOfBoundsException` if there is no such party");
        noSuchParty(VirtualQueue::formatItinerary);
    }

    private static void formattedByte() {
        says("P64", "Returns a byte of the text that was formatted last.");
        stays("of the text 1@9-10;3@20-20;", Park.BUSY, q -> q.formattedByte(4), 49);
        VirtualQueue q = Park.BUSY.make();
        q.formatItinerary(2);
        due("a later one", Checks.formatted(q), "0@4-6;");
        q.cancel(Park.NOW);
        due("what happens then does not matter", Checks.formatted(q), "0@4-6;");
        q.truncateInput(0);
        q.loadPark();
        due("nor does a new park", Checks.formatted(q), "0@4-6;");
        says("P64", "`index`: index into the text");
        stays("the first", Park.BUSY, x -> x.formattedByte(0), 49);
        stays("the last", Park.BUSY, x -> x.formattedByte(14), 59);
        says("P64", "Returns the byte;");
        stays("the character @", Park.BUSY, x -> x.formattedByte(1), 64);
        stays("the hyphen", Park.BUSY, x -> x.formattedByte(3), 45);
        stays("the digit 0", Park.BUSY, x -> x.formattedByte(5), 48);
        stays("the digit 9", Park.BUSY, x -> x.formattedByte(2), 57);
        says("P64", "NONE if index is out of range,");
        for (int index : new int[] {-1, 15, MAX, MIN}) {
            stays("index " + index, Park.BUSY, x -> x.formattedByte(index), NONE);
        }
        VirtualQueue shorter = Park.BUSY.make();
        shorter.formatItinerary(2);
        due("behind a shorter text", shorter.formattedByte(6), NONE);
        shorter.formatItinerary(0);
        due("in an empty text", shorter.formattedByte(0), NONE);
        says("P64", "or if nothing has been formatted.");
        for (int index : new int[] {0, 1, -1, MAX, MIN}) {
            stays("index " + index, Park.NEW, x -> x.formattedByte(index), NONE);
            stays("index " + index, Park.SMALL, x -> x.formattedByte(index), NONE);
        }
    }
}
