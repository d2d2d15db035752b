/** The edges of the queries over lines, tickets and capacity: P46 to P54. */
final class QueryEdges extends Edges {
    static void all() {
        boarded();
        averageWait();
        longestWait();
        forecast();
        forecastBoards();
        expectedReturns();
        expiredPart();
        capacityLeft();
        peakSlot();
        usage();
    }

    private static VirtualQueue later(VirtualQueue q, int slots) {
        if (slots > 0) {
            q.advance(slots);
        }
        return q;
    }

    private static void boarded() {
        says("P46", "Returns how many persons a ride has boarded from one of its lines.");
        stays("standby", Park.BUSY, q -> q.boarded(0, false), 8);
        stays("merge", Park.BUSY, q -> q.boarded(0, true), 0);
        says("P46", "`ride`: index of a ride");
        VirtualQueue eight = Checks.park("ride 20 50 1 0 143;".repeat(8));
        eight.joinStandby(7, 5);
        eight.advance(1);
        due("the last", eight.boarded(7, false) + " " + eight.boarded(6, false) + " " + eight.boarded(0, false), "5 0 0");
        says("P46", "`merge`: true for the merge line, false for the standby line");
        VirtualQueue both = Checks.park("ride 20 50 1 0 143;tier 5 144 0 0;party 0 4;");
        both.redeem(both.issue(0, 0, 0));
        both.joinStandby(0, 7);
        both.advance(1);
        due("true", both.boarded(0, true), 4);
        due("false", both.boarded(0, false), 7);
        says("P46", "Returns the number of persons.");
        stays("none", Park.BUSY, q -> q.boarded(Park.DOWN, true), 0);
        stays("none", Park.SMALL, q -> q.boarded(0, false), 0);
        VirtualQueue many = Checks.park("ride 200 50 1 0 143;");
        for (int round = 0; round < 8; round++) {
            for (int k = 0; k < 60; k++) {
                many.joinStandby(0, 12);
            }
            many.advance(4);
        }
        due("8 full lines, of which some 16 groups board in a slot", many.boarded(0, false), 8 * 60 * 12);
        says("P46", "Throws `IndexOutOfBoundsException` if there is no such ride");
        noSuchRide((q, ride) -> q.boarded(ride, true));
        noSuchRide((q, ride) -> q.boarded(ride, false));
    }

    /** In slot 1: a standby group has boarded, another one waits since slot 0, and a party has come with its ticket. */
    private static VirtualQueue waits() {
        VirtualQueue q = Checks.park("ride 12 50 24 0 143;ride 12 50 1 143 143;tier 5 144 0 0;party 0 2;");
        q.joinStandby(0, 12);
        q.joinStandby(0, 11);
        q.advance(1);
        q.issue(0, 0, 1);
        q.redeem(0);
        q.joinStandby(1, 1);
        return q;
    }

    private static void averageWait() {
        says("P47", "Returns the average waiting time of all groups that a ride has boarded (both lines).");
        VirtualQueue q = waits();
        due("one group", q.averageWait(0), 0.0);
        q.advance(1);
        // slot 1: planned 6, so the merge group (2) boards first, and 11 more would exceed 12
        due("a merge group", q.averageWait(0) + " " + q.boarded(0, true) + " " + q.boarded(0, false), "0.0 2 12");
        q.breakDown(0);
        q.advance(1);
        q.repair(0);
        q.advance(1);
        due("0, 0 and 3 slots", q.averageWait(0), 1.0);
        says("P47", "`ride`: index of a ride");
        q.advance(140);
        due("the other ride", q.averageWait(1), 142.0);
        says("P47", "Returns the sum of their waiting times divided by their number, as a double.");
        VirtualQueue third = Checks.park("ride 12 50 1 0 143;");
        for (int k = 0; k < 3; k++) {
            third.joinStandby(0, k == 0 ? 12 : 6);
        }
        third.advance(2);
        due("two thirds", third.averageWait(0), 2.0 / 3);
        VirtualQueue most = Checks.park("ride 12 50 1 143 143;");
        most.joinStandby(0, 12);
        most.advance(144);
        due("most", most.averageWait(0), 143.0);
        says("P47", "Throws `IndexOutOfBoundsException` if there is no such ride");
        noSuchRide(VirtualQueue::averageWait);
        says("P47", "Throws `ArithmeticException` if it has boarded no group");
        stays("nothing has happened", Park.SMALL, x -> x.averageWait(0), NO_QUOTIENT);
        stays("its groups wait", Park.BUSY, x -> x.averageWait(Park.DOWN), NO_QUOTIENT);
        stays("another ride has", Park.BUSY, x -> x.averageWait(1), NO_QUOTIENT);
        stays("the day is over", Park.OVER, x -> x.averageWait(Park.DOWN), NO_QUOTIENT);
        stays("this one has", Park.BUSY, x -> x.averageWait(0), 0.0);
    }

    private static void longestWait() {
        says("P48", "Returns the longest waiting time of the groups that a ride has boarded (both lines).");
        VirtualQueue q = waits();
        q.breakDown(0);
        q.advance(2);
        q.repair(0);
        q.advance(1);
        due("the merge group waits 2 slots", q.longestWait(0), 2);
        q.advance(1);
        due("the second standby group waits 4 slots", q.longestWait(0), 4);
        q.joinStandby(0, 1);
        q.advance(1);
        due("a shorter wait behind it", q.longestWait(0), 4);
        says("P48", "`ride`: index of a ride");
        due("the other one", q.longestWait(1), 0);
        says("P48", "Returns the number of slots,");
        VirtualQueue most = Checks.park("ride 12 50 1 143 143;");
        most.joinStandby(0, 12);
        most.advance(144);
        due("most", most.longestWait(0), 143);
        says("P48", "0 if it has boarded no group.");
        stays("nothing has happened", Park.SMALL, x -> x.longestWait(0), 0);
        stays("its groups wait", Park.OVER, x -> x.longestWait(Park.DOWN), 0);
        says("P48", "Throws `IndexOutOfBoundsException` if there is no such ride");
        noSuchRide(VirtualQueue::longestWait);
    }

    private static void forecast() {
        says("P49", "Forecasts the waiting time of a group that would join the standby line of a ride now");
        stays("an empty line", Park.BUSY, q -> q.forecastStandby(0, 12), 0);
        stays("nothing has happened", Park.SMALL, q -> q.forecastStandby(0, 1), 0);
        VirtualQueue late = Checks.park("ride 12 50 1 10 10;");
        due("its only slot", late.forecastStandby(0, 12), 10);
        due("in its only slot", later(late, 10).forecastStandby(0, 12), 0);
        due("behind it", later(late, 1).forecastStandby(0, 12), NONE);
        says("P49", "(even if it is full),");
        VirtualQueue full = Checks.park("ride 12 50 1 0 143;");
        for (int k = 0; k < 60; k++) {
            full.joinStandby(0, 12);
        }
        due("behind 60 groups", full.forecastStandby(0, 12), 60);
        due("it is still full", full.joinStandby(0, 1), FULL);
        stays("60 groups of 12 and 200 places, of which 196 are good for them", Park.FULL, q -> q.forecastStandby(7, 12), 3);
        says("P49", "if nobody else joins a line,");
        VirtualQueue tickets = Checks.park("ride 12 100 1 0 143;tier 5 144 0 0;party 0 12;");
        tickets.issue(0, 0, 0);
        due("an ACTIVE ticket is in no line", tickets.forecastStandby(0, 12), 0);
        tickets.redeem(0);
        due("a USED one is", tickets.forecastStandby(0, 12), 1);
        says("P49", "and the ride stays down or not as it is.");
        stays("down", Park.BUSY, q -> q.forecastStandby(Park.DOWN, 1), NONE);
        VirtualQueue script = Park.SMALL.make();
        Checks.loadScript(script, "at 0 break 0;");
        due("a script does not matter", script.forecastStandby(0, 1), 0);
        script.breakDown(0);
        Checks.loadScript(script, "at 1 repair 0;");
        due("a script does not matter", script.forecastStandby(0, 1), NONE);
        says("P49", "`ride`: index of a ride");
        stays("the last", Park.FULL, q -> q.forecastStandby(7, 1), 3);
        stays("the first", Park.FULL, q -> q.forecastStandby(0, 1), 0);
        says("P49", "`size`: 1 to 12");
        VirtualQueue sizes = Checks.park("ride 12 50 1 0 143;");
        sizes.joinStandby(0, 11);
        due("least", sizes.forecastStandby(0, 1), 0);
        due("one more", sizes.forecastStandby(0, 2), 1);
        due("most", sizes.forecastStandby(0, 12), 1);
        says("P49", "Returns the number of slots;");
        due("none", Park.SMALL.make().forecastStandby(0, 10), 0);
        due("most", Checks.park("ride 12 50 1 143 143;").forecastStandby(0, 12), 143);
        says("P49", "NONE if it would not board on this day.");
        stays("too large for the ride", Park.SMALL, q -> q.forecastStandby(0, 11), NONE);
        stays("the day is over", Park.OVER, q -> q.forecastStandby(0, 1), NONE);
        VirtualQueue last = Checks.park("ride 12 50 1 0 59;ride 12 50 1 0 60;");
        for (int k = 0; k < 60; k++) {
            last.joinStandby(0, 12);
            last.joinStandby(1, 12);
        }
        due("one slot too late", last.forecastStandby(0, 1), NONE);
        due("just in time", last.forecastStandby(1, 1), 60);
        VirtualQueue blocked = Checks.park("ride 5 50 1 0 143;");
        blocked.joinStandby(0, 6);
        due("behind a group that is too large", blocked.forecastStandby(0, 1), NONE);
        says("P49", "Throws `IndexOutOfBoundsException` if there is no such ride");
        noSuchRide((q, ride) -> q.forecastStandby(ride, 1));
        noIndex("the ride comes before the size", Park.BUSY, q -> q.forecastStandby(4, 0));
        noIndex("the ride comes before the size", Park.BUSY, q -> q.forecastStandby(-1, 13));
        says("P49", "Throws `IllegalArgumentException` if size is out of range");
        ranges("size", 1, 12, (q, size) -> q.forecastStandby(0, size));
        noArgument("though the ride is down", Park.BUSY, q -> q.forecastStandby(Park.DOWN, 13));
        noArgument("though the day is over", Park.OVER, q -> q.forecastStandby(0, 0));
    }

    /** The group does join, and boards when it was said; with merge lines that leave just enough room, or too little. */
    private static void forecastBoards() {
        says("P49", "Forecasts the waiting time of a group that would join the standby line of a ride now");
        for (int share = 0; share <= 100; share += 10) {
            for (int size = 1; size <= 12; size++) {
                VirtualQueue q = Checks.park("ride 20 " + share + " 1 3 9;ride 200 100 1 0 143;tier 5 144 0 0;"
                        + "party 0 8;party 0 3;party 0 12;party 0 9;party 0 1;party 0 11;extension 0;");
                for (int party = 0; party < 6; party++) {
                    q.issue(party, 1, 0);
                }
                q.breakDown(1);
                q.advance(3);
                for (int ticket = 0; ticket < 6; ticket++) {
                    q.redeemOpen(ticket, 0);
                }
                q.joinStandby(0, 7);
                q.joinStandby(0, 12);
                int forecast = q.forecastStandby(0, size);
                q.joinStandby(0, size);
                int waited = 0;
                while (q.standbyPersons(0) > 0 && q.now() < 144) {
                    q.advance(1);
                    waited++;
                }
                due("share " + share + ", size " + size, forecast, q.standbyPersons(0) > 0 ? NONE : waited - 1);
            }
        }
    }

    private static void expectedReturns() {
        says("P50", "Returns the number of persons who may return in a slot: the sizes of the parties of all ACTIVE tickets"
                + " for the ride whose window contains the slot.");
        int[] due = {0, 6, 6, 6, 0};
        for (int slot = 3; slot <= 7; slot++) {
            int of = slot;
            stays("slot " + slot + " of 4-6", Park.BUSY, q -> q.expectedReturns(0, of), due[slot - 3]);
        }
        stays("not EXPIRED", Park.BUSY, q -> q.expectedReturns(0, 1), 0);
        stays("not USED", Park.BUSY, q -> q.expectedReturns(3, 0), 0);
        stays("not OPEN", Park.BUSY, q -> q.expectedReturns(2, 0), 0);
        stays("not CANCELLED", Park.BUSY, q -> q.expectedReturns(1, 9), 3);
        stays("a ride that is down", Park.BUSY, q -> q.expectedReturns(3, 20), 3);
        says("P50", "`ride`: index of a ride");
        stays("another one", Park.FULL, q -> q.expectedReturns(7, 0), 0);
        says("P50", "`slot`: 0 to 143");
        VirtualQueue q = Checks.park("ride 20 100 24 0 143;tier 5 144 0 0;party 0 4;party 0 5;");
        q.issue(0, 0, 0);
        q.issue(1, 0, 143);
        due("least", q.expectedReturns(0, 0), 4);
        due("most", q.expectedReturns(0, 143), 5);
        due("the last of 24 slots, and one more", q.expectedReturns(0, 23) + " " + q.expectedReturns(0, 24), "4 0");
        says("P50", "Returns the number of persons.");
        stays("none", Park.SMALL, x -> x.expectedReturns(0, 0), 0);
        stays("many", Park.FULL, x -> x.expectedReturns(0, 0), 200);
        says("P50", "Throws `IndexOutOfBoundsException` if there is no such ride");
        noSuchRide((x, ride) -> x.expectedReturns(ride, 0));
        noIndex("the ride comes before the slot", Park.BUSY, x -> x.expectedReturns(4, 144));
        noIndex("the ride comes before the slot", Park.BUSY, x -> x.expectedReturns(-1, -1));
        says("P50", "Throws `IllegalArgumentException` if slot is out of range");
        ranges("slot", 0, 143, (x, slot) -> x.expectedReturns(0, slot));
        noArgument("the present slot 144", Park.OVER, x -> x.expectedReturns(0, 144));
    }

    private static void expiredPart() {
        says("P51", "Returns the part of the returns that failed: the number of EXPIRED tickets for a ride divided by the"
                + " number of its USED and EXPIRED tickets together (by the ride of the ticket).");
        VirtualQueue q = Checks.park("ride 20 100 1 0 143;ride 20 100 1 0 143;tier 5 144 0 0;party 0 4;party 0 5;party 0 6;extension 0;");
        for (int party = 0; party < 3; party++) {
            q.issue(party, 0, 0);
        }
        q.redeem(0);
        due("one USED", q.expiredPart(0), 0.0);
        q.advance(1);
        due("one USED, two EXPIRED", q.expiredPart(0), 2.0 / 3);
        q.issue(0, 1, 1);
        q.breakDown(1);
        q.advance(1);
        due("OPEN does not count", answer(q, x -> x.expiredPart(1)), NO_QUOTIENT);
        q.redeemOpen(3, 0);
        due("used for ride 0, but of ride 1", q.expiredPart(0) + " " + q.expiredPart(1), 2.0 / 3 + " 0.0");
        says("P51", "`ride`: index of a ride");
        stays("the first", Park.BUSY, x -> x.expiredPart(0), 1.0);
        stays("the last", Park.BUSY, x -> x.expiredPart(3), 0.0);
        says("P51", "Returns the quotient, as a double.");
        VirtualQueue all = later(Park.FULL.make(), 3);
        due("all 50", all.expiredPart(0), 1.0);
        VirtualQueue one = Park.FULL.make();
        one.redeem(0);
        one.advance(1);
        due("all but one", one.expiredPart(0), 49.0 / 50);
        says("P51", "Throws `IndexOutOfBoundsException` if there is no such ride");
        noSuchRide(VirtualQueue::expiredPart);
        says("P51", "Throws `ArithmeticException` if there are none of them");
        stays("no tickets", Park.SMALL, x -> x.expiredPart(0), NO_QUOTIENT);
        stays("CANCELLED and ACTIVE ones", Park.BUSY, x -> x.expiredPart(1), NO_QUOTIENT);
        stays("an OPEN one", Park.BUSY, x -> x.expiredPart(2), NO_QUOTIENT);
        stays("50 ACTIVE ones", Park.FULL, x -> x.expiredPart(0), NO_QUOTIENT);
    }

    private static void capacityLeft() {
        says("P52", "Returns the sum of the remaining capacities of a ride from the present slot to the end of the day.");
        stays("the present slot counts", Park.BUSY, q -> q.capacityLeft(0), 96 * 10 - 6);
        stays("from its first slot on", Park.BUSY, q -> q.capacityLeft(1), 139 * 4 - 3);
        stays("a ride that is down", Park.BUSY, q -> q.capacityLeft(3), 140 * 15 - 3);
        VirtualQueue day = Checks.park("ride 10 100 1 0 143;tier 5 144 0 0;party 0 4;party 0 5;");
        day.issue(0, 0, 0);
        day.issue(1, 0, 143);
        due("the whole day", day.capacityLeft(0), 1440 - 9);
        due("without slot 0", later(day, 1).capacityLeft(0), 1430 - 5);
        due("the last slot", later(day, 142).capacityLeft(0), 5);
        due("no slot", later(day, 1).capacityLeft(0), 0);
        says("P52", "`ride`: index of a ride");
        stays("the last", Park.FULL, q -> q.capacityLeft(7), 144 * 200);
        stays("the first", Park.FULL, q -> q.capacityLeft(0), 143 * 200);
        says("P52", "Returns the number of persons.");
        stays("none, the day is over", Park.OVER, q -> q.capacityLeft(2), 0);
        due("none, nothing is planned", Checks.park("ride 200 0 1 0 143;").capacityLeft(0), 0);
        due("none behind the last slot", later(Checks.park("ride 200 100 1 0 5;"), 6).capacityLeft(0), 0);
        due("in the last slot", later(Checks.park("ride 200 100 1 0 5;"), 5).capacityLeft(0), 200);
        says("P52", "Throws `IndexOutOfBoundsException` if there is no such ride");
        noSuchRide(VirtualQueue::capacityLeft);
    }

    private static void peakSlot() {
        says("P53", "Returns the slot of the day in which the planned minus the remaining capacity of a ride is greatest;");
        VirtualQueue q = Checks.park("ride 10 100 1 0 143;tier 5 144 0 0;party 0 4;party 0 4;party 0 5;party 0 1;extension 0;");
        q.issue(0, 0, 143);
        due("the last slot", q.peakSlot(0), 143);
        q.issue(2, 0, 0);
        due("the first slot has one more", q.peakSlot(0), 0);
        q.cancel(1);
        due("CANCELLED does not count", q.peakSlot(0), 143);
        says("P53", "on a tie the earliest one.");
        q.issue(1, 0, 142);
        due("4 persons each", q.peakSlot(0), 142);
        q.issue(3, 0, 143);
        due("4 and 5 persons", q.peakSlot(0), 143);
        q.issue(2, 0, 0);
        due("5 persons each", q.peakSlot(0), 0);
        due("past slots count", later(q, 144).peakSlot(0), 0);
        VirtualQueue all = Checks.park("ride 12 100 1 0 143;tier 5 144 0 0;" + "party 0 12;".repeat(50));
        for (int party = 49; party >= 0; party--) {
            all.issue(party, 0, 90 + party);
        }
        due("50 slots alike", all.peakSlot(0), 90);
        VirtualQueue one = Checks.park("ride 12 100 1 0 143;tier 5 144 0 0;party 0 1;party 0 1;party 0 2;");
        one.issue(0, 0, 77);
        due("one person", one.peakSlot(0), 77);
        one.issue(1, 0, 76);
        due("one person each", one.peakSlot(0), 76);
        one.issue(2, 0, 78);
        due("two persons", one.peakSlot(0), 78);
        says("P53", "`ride`: index of a ride");
        stays("the first", Park.BUSY, x -> x.peakSlot(0), 4);
        stays("the last", Park.BUSY, x -> x.peakSlot(3), 0);
        says("P53", "Returns the slot;");
        stays("of another ride", Park.BUSY, x -> x.peakSlot(1), 9);
        stays("when the day is over", Park.OVER, x -> x.peakSlot(1), 9);
        says("P53", "NONE if it is 0 in all slots.");
        stays("no tickets", Park.SMALL, x -> x.peakSlot(0), NONE);
        stays("tickets for other rides", Park.FULL, x -> x.peakSlot(7), NONE);
        VirtualQueue cancelled = Park.SMALL.make();
        cancelled.issue(0, 0, 0);
        due("one ticket", cancelled.peakSlot(0), 0);
        cancelled.cancel(0);
        due("a CANCELLED one", cancelled.peakSlot(0), NONE);
        says("P53", "Throws `IndexOutOfBoundsException` if there is no such ride");
        noSuchRide(VirtualQueue::peakSlot);
    }

    private static void usage() {
        says("P54", "Returns the used part of the planned capacity of a ride: the sum of planned minus remaining capacities of"
                + " all slots of the day, divided by the sum of the planned capacities.");
        stays("USED 4 and ACTIVE 3", Park.BUSY, q -> q.usage(3), 7.0 / (144 * 15));
        stays("EXPIRED 5 and ACTIVE 6", Park.BUSY, q -> q.usage(0), 11.0 / 1000);
        stays("OPEN 6", Park.BUSY, q -> q.usage(2), 6.0 / (144 * 12));
        stays("CANCELLED 2 and ACTIVE 3", Park.BUSY, q -> q.usage(1), 3.0 / (139 * 4));
        stays("all slots of the day, also past ones", Park.OVER, q -> q.usage(0), 11.0 / 1000);
        says("P54", "`ride`: index of a ride");
        stays("the first", Park.FULL, q -> q.usage(0), 200.0 / 28800);
        stays("the last", Park.FULL, q -> q.usage(7), 0.0);
        says("P54", "Returns the quotient, as a double.");
        VirtualQueue q = Checks.park("ride 12 100 1 143 143;tier 5 144 0 0;party 0 12;");
        due("nothing", q.usage(0), 0.0);
        q.issue(0, 0, 0);
        due("all", q.usage(0), 1.0);
        VirtualQueue past = Checks.park("ride 10 100 1 0 1;tier 5 144 0 0;party 0 10;");
        past.issue(0, 0, 0);
        past.advance(1);
        past.setShare(0, 10);
        due("more than is planned any more", past.usage(0), 5.0);
        says("P54", "Throws `IndexOutOfBoundsException` if there is no such ride");
        noSuchRide(VirtualQueue::usage);
        says("P54", "Throws `ArithmeticException` if the sum of the planned capacities is 0");
        stays("share 0", () -> Checks.park("ride 200 0 1 0 143;"), x -> x.usage(0), NO_QUOTIENT);
        stays("99 percent of 1", () -> Checks.park("ride 1 99 1 0 143;"), x -> x.usage(0), NO_QUOTIENT);
        due("100 percent of 1", Checks.park("ride 1 100 1 0 143;").usage(0), 0.0);
        due("one slot", Checks.park("ride 1 100 1 143 143;").usage(0), 0.0);
        past.advance(1);
        past.setShare(0, 0);
        due("nothing is planned any more", answer(past, x -> x.usage(0)), NO_QUOTIENT);
    }
}
