/** Objects that the tests of edges begin with. */
enum Park {
    /** No park has been loaded. */
    NEW,
    /** One ride, one tier, one party, and nothing has happened. */
    SMALL,
    /** Something of everything has happened; the present slot is 4. */
    BUSY,
    /** BUSY when the day is over. */
    OVER,
    /** As many rides, tiers, parties, tickets, entries and bytes as there can be, a waitlist and a line that are full. */
    FULL,
    /** SMALL, behind FULL: what an earlier park had is no longer there. */
    SHRUNK;

    static final int BUSY_RIDES = 4;
    static final int BUSY_PARTIES = 5;
    // The tickets of BUSY, each named by its state; there are NOW (its window contains the present slot) and LATER too.
    static final int USED = 0;
    static final int EXPIRED = 1;
    static final int OPEN = 2;
    static final int CANCELLED = 3;
    static final int LATER = 4;
    static final int ON_DOWN_RIDE = 5;
    static final int NOW = 6;
    static final int BUSY_TICKETS = 7;
    // Ride 3 of BUSY is down, ride 1 opens in slot 5, and ride 0 closes with slot 99.
    static final int DOWN = 3;

    private static final String SMALL_TEXT = "ride 10 50 2 0 143;tier 1 144 0 0;party 0 4;";

    private String trace;

    VirtualQueue make() {
        switch (this) {
            case NEW:
                return new VirtualQueue();
            case SMALL:
                return Checks.park(SMALL_TEXT);
            case SHRUNK:
                VirtualQueue shrunk = full();
                shrunk.truncateInput(0);
                Checks.loadPark(shrunk, SMALL_TEXT);
                return shrunk;
            case BUSY:
                return busy();
            case OVER:
                VirtualQueue over = busy();
                over.advance(140);
                return over;
            default:
                return full();
        }
    }

    /** All that can be seen of such an object, now and later. */
    String trace() {
        if (trace == null) {
            trace = Probe.trace(make());
        }
        return trace;
    }

    private static VirtualQueue busy() {
        VirtualQueue q = Checks.park("ride 20 50 3 0 99;ride 10 40 2 5 143;ride 12 100 2 0 143;ride 30 50 1 0 143;"
                + "tier 4 144 3 4;tier 3 100 0 0;party 0 4;party 0 5;party 1 6;party 1 2;party 1 3;extension 1;");
        q.issue(0, 3, 0);
        q.redeem(USED);
        q.issue(1, 0, 1);
        q.issue(2, 2, 0);
        q.issue(3, 1, 9);
        q.cancel(CANCELLED);
        q.issue(4, 1, 9);
        q.issue(4, 3, 20);
        q.breakDown(2);
        q.breakDown(DOWN);
        q.joinStandby(3, 12);
        q.joinStandby(3, 5);
        q.joinStandby(1, 7);
        q.advance(2);
        q.saveSnapshot(1);
        q.joinStandby(0, 8);
        q.advance(2);
        q.repair(2);
        q.issue(2, 0, 4);
        q.joinWaitlist(0, 0);
        q.joinWaitlist(3, 0);
        q.joinWaitlist(1, 3);
        q.joinStandby(2, 9);
        Checks.loadScript(q, "at 6 break 0;at 8 issue 1 2 0;at 9 standby 3 2;at 20 repair 0;");
        q.formatItinerary(4);
        Checks.loadPark(q, "tier 1 1 0 0; what");
        Checks.put(q, "extension 3;");
        return q;
    }

    private static VirtualQueue full() {
        VirtualQueue q = Checks.park("ride 200 100 1 0 143;".repeat(8) + "tier 5 144 0 0;".repeat(4) + "party 3 4;".repeat(50));
        for (int k = 0; k < 150; k++) {
            q.issue(k % 50, k / 50, 0);
        }
        for (int k = 0; k < 60; k++) {
            q.joinStandby(7, 12);
        }
        for (int k = 0; k < 50; k++) {
            q.joinWaitlist(k, 7);
        }
        Checks.loadScript(q, "at 9 break 0;".repeat(40));
        q.saveSnapshot(0);
        q.saveSnapshot(1);
        Checks.put(q, "x".repeat(1500));
        return q;
    }
}
