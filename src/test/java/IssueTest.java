/** Promises 17 to 19: issue(), nextWindow(), issueJoint(). */
public final class IssueTest {
    private static final int NOT_ALLOWED = VirtualQueue.NOT_ALLOWED;
    private static final int DUPLICATE = VirtualQueue.DUPLICATE;
    private static final int NO_WINDOW = VirtualQueue.NO_WINDOW;
    private static final int RIDE_DOWN = VirtualQueue.RIDE_DOWN;
    private static final int FULL = VirtualQueue.FULL;

    public static void main(String[] args) {
        windows();
        ownWindows();
        horizon();
        limitAndPause();
        orderOfChecks();
        full();
        exceptions();
        leavesTheWaitlist();
        joint();
        jointChecks();
        jointFull();
        jointExceptions();
        Checks.end();
    }

    /** nextWindow() and then issue(), which must give that window. */
    private static void gives(VirtualQueue q, int party, int ride, int earliest, String window) {
        int ticket = q.ticketCount();
        String what = "P17 issue(" + party + ", " + ride + ", " + earliest + ")";
        int start = q.nextWindow(party, ride, earliest);
        Checks.due("P18 issues nothing", q.ticketCount(), ticket);
        Checks.due(what, q.issue(party, ride, earliest), ticket);
        Checks.due(what, Checks.ticket(q, ticket), party + " " + ride + " " + window + " state 0 extension 0");
        Checks.due("P18 start of " + what, start, q.ticketStart(ticket));
    }

    private static void refuses(VirtualQueue q, int party, int ride, int earliest, int code) {
        Checks.refused("P17", q, () -> q.issue(party, ride, earliest), code);
        Checks.refused("P18", q, () -> q.nextWindow(party, ride, earliest), code);
    }

    private static void windows() {
        VirtualQueue q = Checks.park("ride 20 50 3 10 20;tier 5 144 0 0;" + "party 0 6;".repeat(9));
        gives(q, 0, 0, 0, "10-12");
        gives(q, 1, 0, 0, "11-13");
        gives(q, 2, 0, 11, "12-14");
        gives(q, 3, 0, 20, "20-22");
        refuses(q, 4, 0, 20, NO_WINDOW);
        refuses(q, 4, 0, 21, NO_WINDOW);
        refuses(q, 4, 0, 143, NO_WINDOW);
        q.advance(15);
        gives(q, 4, 0, 0, "15-17");
        gives(q, 5, 0, 15, "16-18");
        q.advance(6);
        refuses(q, 6, 0, 0, NO_WINDOW);
        q.advance(123);
        refuses(q, 6, 0, 143, NO_WINDOW);
        VirtualQueue end = Checks.park("ride 20 50 24 0 143;tier 5 144 0 0;party 0 10;party 0 1;");
        gives(end, 0, 0, 143, "143-166");
        refuses(end, 1, 0, 143, NO_WINDOW);
        VirtualQueue share = Checks.park("ride 20 50 1 0 143;tier 5 144 0 0;party 0 11;party 0 10;");
        refuses(share, 0, 0, 0, NO_WINDOW);
        gives(share, 1, 0, 0, "0-0");
    }

    private static void ownWindows() {
        VirtualQueue q = Checks.park("ride 20 50 3 0 143;ride 20 50 5 0 143;ride 20 50 2 0 143;ride 20 50 4 0 143;"
                + "tier 5 144 0 0;party 0 1;party 0 1;extension 48;");
        gives(q, 0, 0, 4, "4-6");
        gives(q, 0, 1, 0, "7-11");
        gives(q, 0, 2, 0, "0-1");
        gives(q, 0, 3, 1, "12-15");
        // windows of another party do not block
        gives(q, 1, 0, 4, "4-6");
        // what is no longer ACTIVE does not block
        q.cancel(1);
        gives(q, 0, 1, 0, "7-11");
        VirtualQueue down = Checks.park("ride 20 50 2 0 143;ride 20 50 1 0 143;tier 5 144 0 0;party 0 1;extension 48;");
        gives(down, 0, 0, 0, "0-1");
        down.breakDown(0);
        down.advance(2);
        Checks.due("extended", down.ticketEnd(0), 3);
        gives(down, 0, 1, 0, "4-4");
    }

    private static void horizon() {
        VirtualQueue q = Checks.park("ride 20 50 1 10 143;tier 5 10 0 0;tier 5 9 0 0;tier 5 144 0 0;party 0 5;party 1 5;party 2 5;");
        refuses(q, 1, 0, 0, NO_WINDOW);
        gives(q, 0, 0, 0, "10-10");
        q.advance(1);
        gives(q, 1, 0, 0, "10-10");
        gives(q, 2, 0, 143, "143-143");
    }

    private static void limitAndPause() {
        VirtualQueue q = Checks.park("ride 20 50 1 0 143;ride 20 50 1 0 143;ride 20 50 1 0 143;"
                + "tier 2 144 0 0;tier 5 144 3 0;party 0 1;party 1 1;");
        gives(q, 0, 0, 5, "5-5");
        gives(q, 0, 1, 6, "6-6");
        refuses(q, 0, 2, 7, NOT_ALLOWED);
        q.cancel(0);
        gives(q, 0, 2, 7, "7-7");
        gives(q, 1, 0, 9, "9-9");
        refuses(q, 1, 1, 0, NOT_ALLOWED);
        q.advance(2);
        refuses(q, 1, 1, 0, NOT_ALLOWED);
        q.advance(1);
        gives(q, 1, 1, 0, "3-3");
        q.cancel(4);
        // the pause counts from the last ticket, also if that is cancelled
        refuses(q, 1, 1, 0, NOT_ALLOWED);
        q.advance(3);
        gives(q, 1, 1, 0, "6-6");
    }

    private static void orderOfChecks() {
        VirtualQueue q = Checks.park("ride 20 50 1 0 9;ride 20 50 1 0 9;tier 1 144 9 0;tier 5 144 0 0;party 0 1;");
        gives(q, 0, 0, 0, "0-0");
        refuses(q, 0, 0, 100, DUPLICATE);
        refuses(q, 0, 1, 100, NOT_ALLOWED);
        q.breakDown(0);
        refuses(q, 0, 0, 100, RIDE_DOWN);
        q.repair(0);
        refuses(q, 0, 0, 100, DUPLICATE);
        q.redeem(0);
        refuses(q, 0, 0, 100, NOT_ALLOWED);
        q.advance(9);
        refuses(q, 0, 0, 100, NO_WINDOW);
        gives(q, 0, 0, 0, "9-9");
    }

    /** A park with just 150 tickets: three rides, and fifty parties with one for each. */
    private static VirtualQueue withTickets(int count) {
        VirtualQueue q = Checks.park("ride 200 100 1 0 143;".repeat(4) + "tier 4 144 0 0;" + "party 0 1;".repeat(49) + "tier 5 144 9 0;");
        q.addParty(0, 1);
        for (int k = 0; k < count; k++) {
            Checks.due("P17 up to 150", q.issue(k % 50, k / 50, 0), k);
        }
        return q;
    }

    private static void full() {
        VirtualQueue q = withTickets(149);
        gives(q, 49, 2, 0, "2-2");
        Checks.due("P25 150", q.ticketCount(), 150);
        refuses(q, 0, 3, 0, FULL);
        refuses(q, 0, 2, 0, DUPLICATE);
        q.breakDown(3);
        refuses(q, 0, 3, 0, RIDE_DOWN);
        q.repair(3);
        q.cancel(0);
        refuses(q, 0, 3, 0, FULL);
        q.setShare(3, 0);
        refuses(q, 0, 3, 0, FULL);
    }

    private static void exceptions() {
        VirtualQueue q = Checks.park("ride 20 50 1 0 143;ride 20 50 1 0 143;tier 5 144 0 0;party 0 1;");
        int[][] noIndex = {{1, 0, 0}, {-1, 0, 0}, {0, 2, 0}, {0, -1, 0}, {1, 0, 144}, {0, 2, -1}};
        for (int[] a : noIndex) {
            Checks.noIndex("P17", q, () -> q.issue(a[0], a[1], a[2]));
            Checks.noIndex("P18", q, () -> q.nextWindow(a[0], a[1], a[2]));
        }
        q.breakDown(1);
        int[][] noArgument = {{0, 0, 144}, {0, 0, -1}, {0, 1, 144}};
        for (int[] a : noArgument) {
            Checks.noArgument("P17", q, () -> q.issue(a[0], a[1], a[2]));
            Checks.noArgument("P18", q, () -> q.nextWindow(a[0], a[1], a[2]));
        }
    }

    private static void leavesTheWaitlist() {
        VirtualQueue q = Checks.park("ride 20 50 1 0 143;ride 20 50 1 0 143;tier 5 144 0 0;party 0 1;party 0 1;");
        q.joinWaitlist(0, 0);
        q.joinWaitlist(1, 0);
        q.joinWaitlist(0, 1);
        q.nextWindow(0, 0, 0);
        Checks.due("P18 stays on the waitlist", q.waitlistAt(0, 0), 0);
        q.issue(0, 0, 0);
        Checks.due("P17 leaves the waitlist", q.waitlistAt(0, 0), 1);
        Checks.due("P17 only that one", q.waitlistAt(1, 0), 0);
    }

    private static void joint() {
        VirtualQueue q = Checks.park("ride 20 50 2 3 143;ride 20 50 4 0 143;tier 3 20 0 0;tier 3 10 0 0;"
                + "party 0 4;party 1 6;party 0 1;party 1 7;");
        q.joinWaitlist(0, 0);
        q.joinWaitlist(1, 0);
        q.issue(2, 0, 3);
        Checks.due("P19", q.issueJoint(1, 0, 0, 0), 1);
        Checks.due("P19 first party first", Checks.ticket(q, 1), "1 0 4-5 state 0 extension 0");
        Checks.due("P19 the second is next", Checks.ticket(q, 2), "0 0 4-5 state 0 extension 0");
        Checks.due("P19 charged for both", q.remaining(0, 4), 0);
        Checks.due("P19 both leave the waitlist", q.waitlistAt(0, 0), VirtualQueue.NONE);
        q.issue(2, 1, 6);
        Checks.due("P19 the second has one", q.issueJoint(0, 2, 1, 1), DUPLICATE);
        Checks.due("P19 too many persons", q.issueJoint(0, 3, 1, 1), NO_WINDOW);
        Checks.due("P19 just enough places", q.issueJoint(0, 1, 1, 1), 4);
        Checks.due("P19 behind 4-5, and slot 6 has 9 places", q.ticketStart(4), 7);
        VirtualQueue zero = Checks.park("ride 20 50 2 0 143;tier 3 20 0 0;party 0 4;party 0 6;");
        Checks.due("P19 slot 0", zero.issueJoint(0, 1, 0, 0), 0);
        Checks.due("P19 slot 0", zero.ticketStart(1), 0);
        VirtualQueue both = Checks.park("ride 20 50 2 0 143;ride 20 50 4 0 143;ride 30 50 1 0 143;tier 3 20 0 0;tier 3 10 0 0;"
                + "party 0 4;party 1 6;party 0 9;");
        both.issue(0, 0, 2);
        both.issue(1, 1, 4);
        Checks.due("P19 blocked by both", both.issueJoint(0, 1, 2, 2), 2);
        Checks.due("P19 blocked by both", both.ticketStart(2), 8);
        both.cancel(2);
        both.cancel(3);
        Checks.due("P19 the smaller horizon", both.issueJoint(0, 1, 2, 11), NO_WINDOW);
        Checks.due("P19 the smaller horizon", both.issueJoint(1, 0, 2, 11), NO_WINDOW);
        Checks.due("P19 at the smaller horizon", both.issueJoint(1, 0, 2, 10), 4);
        Checks.due("P19 the sum of the sizes", both.issueJoint(2, 0, 2, 10), DUPLICATE);
        both.cancel(4);
        both.cancel(5);
        both.issue(1, 2, 9);
        Checks.due("P19 the sum of the sizes", both.issueJoint(2, 0, 2, 9), 7);
        Checks.due("P19 the sum of the sizes", both.ticketStart(7), 10);
    }

    private static void jointChecks() {
        VirtualQueue q = Checks.park("ride 20 50 1 0 9;ride 20 50 1 0 9;ride 20 50 1 0 9;tier 1 144 0 0;tier 5 144 5 0;tier 5 144 0 0;"
                + "party 0 1;party 1 1;party 2 1;party 2 1;");
        q.issue(0, 0, 0);
        q.issue(1, 1, 0);
        q.advance(1);
        q.issue(2, 2, 5);
        // party 0 is at its limit, party 1 must pause, party 2 has ride 2, party 3 is free
        Checks.refused("P19 first the first", q, () -> q.issueJoint(2, 1, 2, 0), DUPLICATE);
        Checks.refused("P19 first the first", q, () -> q.issueJoint(1, 2, 2, 0), NOT_ALLOWED);
        Checks.refused("P19 the second", q, () -> q.issueJoint(3, 2, 2, 0), DUPLICATE);
        Checks.refused("P19 the second", q, () -> q.issueJoint(3, 1, 2, 0), NOT_ALLOWED);
        Checks.refused("P19 the pause", q, () -> q.issueJoint(1, 3, 2, 0), NOT_ALLOWED);
        Checks.refused("P19 no window", q, () -> q.issueJoint(2, 3, 0, 10), NO_WINDOW);
        q.breakDown(2);
        Checks.refused("P19 down", q, () -> q.issueJoint(2, 1, 2, 0), RIDE_DOWN);
        q.repair(2);
        q.advance(4);
        Checks.due("P19 the pause is over", q.issueJoint(1, 3, 2, 0), 3);
        Checks.refused("P19 both must pause again", q, () -> q.issueJoint(1, 2, 0, 0), NOT_ALLOWED);
        Checks.due("P19 but not without a pause", q.issueJoint(3, 2, 0, 0), 5);
    }

    private static void jointFull() {
        VirtualQueue q = withTickets(148);
        Checks.due("P19 with 148", q.issueJoint(48, 49, 2, 0), 148);
        Checks.due("P19 now 150", q.ticketCount(), 150);
        VirtualQueue more = withTickets(149);
        Checks.refused("P19 with 149", more, () -> more.issueJoint(0, 1, 3, 0), FULL);
        Checks.due("P17 with 149", more.issue(0, 3, 0), 149);
        Checks.refused("P19 DUPLICATE before FULL", more, () -> more.issueJoint(1, 0, 3, 0), DUPLICATE);
        more.cancel(0);
        Checks.refused("P19 FULL", more, () -> more.issueJoint(1, 2, 3, 0), FULL);
        more.breakDown(3);
        Checks.refused("P19 RIDE_DOWN before FULL", more, () -> more.issueJoint(1, 2, 3, 0), RIDE_DOWN);
    }

    private static void jointExceptions() {
        VirtualQueue q = Checks.park("ride 20 50 1 0 143;tier 5 144 0 0;party 0 1;party 0 1;");
        int[][] noIndex = {{2, 0, 0, 0}, {-1, 0, 0, 0}, {0, 2, 0, 0}, {0, -1, 0, 0}, {0, 1, 1, 0}, {0, 1, -1, 0}, {2, 2, 0, 0},
            {0, 0, 1, 0}, {0, 1, 1, 144}};
        for (int[] a : noIndex) {
            Checks.noIndex("P19", q, () -> q.issueJoint(a[0], a[1], a[2], a[3]));
        }
        int[][] noArgument = {{0, 0, 0, 0}, {1, 1, 0, 144}, {0, 1, 0, 144}, {0, 1, 0, -1}};
        for (int[] a : noArgument) {
            Checks.noArgument("P19", q, () -> q.issueJoint(a[0], a[1], a[2], a[3]));
        }
    }
}
