/** Promises 8 to 16: counts, the present slot, parties, planned and remaining capacity. */
public final class ParkTest {
    public static void main(String[] args) {
        counts();
        addParty();
        planned();
        remaining();
        Checks.end();
    }

    private static void counts() {
        VirtualQueue q = Checks.park("ride 1 1 1 1 1;ride 1 1 1 1 1;ride 1 1 1 1 1;tier 1 1 0 0;tier 1 1 0 0;party 1 7;");
        Checks.due("P8", q.rideCount(), 3);
        Checks.due("P9", q.tierCount(), 2);
        Checks.due("P10", q.partyCount(), 1);
        Checks.due("P11", q.now(), 0);
        q.advance(3);
        Checks.due("P11", q.now(), 3);
        q.runScript(2);
        Checks.due("P11", q.now(), 5);
        q.advance(139);
        Checks.due("P11 the day is over", q.now(), 144);
        Checks.due("P13", q.partySize(0), 7);
        Checks.due("P14", q.partyTier(0), 1);
        Checks.noIndex("P13", q, () -> q.partySize(1));
        Checks.noIndex("P13", q, () -> q.partySize(-1));
        Checks.noIndex("P14", q, () -> q.partyTier(1));
        Checks.noIndex("P14", q, () -> q.partyTier(-1));
    }

    private static void addParty() {
        VirtualQueue q = Checks.park("ride 10 100 1 0 143;tier 1 1 0 0;tier 2 144 0 0;party 0 3;");
        Checks.due("P12", q.addParty(1, 12), 1);
        Checks.due("P12 size", q.partySize(1), 12);
        Checks.due("P12 tier", q.partyTier(1), 1);
        Checks.due("P12", q.addParty(0, 1), 2);
        Checks.due("P12 count", q.partyCount(), 3);
        Checks.due("P12 gets a ticket", q.issue(2, 0, 0), 0);
        Checks.noIndex("P12", q, () -> q.addParty(2, 1));
        Checks.noIndex("P12", q, () -> q.addParty(-1, 1));
        Checks.noIndex("P12 the tier is checked first", q, () -> q.addParty(2, 0));
        Checks.noArgument("P12", q, () -> q.addParty(0, 0));
        Checks.noArgument("P12", q, () -> q.addParty(0, 13));
        for (int k = 3; k < 50; k++) {
            Checks.due("P12", q.addParty(0, 1 + k % 12), k);
        }
        Checks.refused("P12 full", q, () -> q.addParty(0, 1), VirtualQueue.FULL);
        Checks.noIndex("P12 exceptions come before FULL", q, () -> q.addParty(4, 1));
        Checks.noArgument("P12 exceptions come before FULL", q, () -> q.addParty(0, 13));
    }

    private static void planned() {
        VirtualQueue q = Checks.park("ride 33 50 3 10 20;ride 200 100 1 0 143;ride 7 14 1 143 143;");
        Checks.due("P15 rounded down", q.planned(0, 10), 16);
        Checks.due("P15 last", q.planned(0, 20), 16);
        Checks.due("P15 before the first", q.planned(0, 9), 0);
        Checks.due("P15 after the last", q.planned(0, 21), 0);
        Checks.due("P15 all", q.planned(1, 0), 200);
        Checks.due("P15 all", q.planned(1, 143), 200);
        Checks.due("P15 less than 1", q.planned(2, 143), 0);
        q.breakDown(0);
        Checks.due("P15 also if it is down", q.planned(0, 10), 16);
        Checks.due("P16 also if it is down", q.remaining(0, 10), 16);
        q.advance(15);
        Checks.due("P15 past slots too", q.planned(0, 10), 16);
        Checks.noIndex("P15", q, () -> q.planned(3, 0));
        Checks.noIndex("P15", q, () -> q.planned(-1, 0));
        Checks.noIndex("P15 the ride is checked first", q, () -> q.planned(3, 144));
        Checks.noArgument("P15", q, () -> q.planned(0, 144));
        Checks.noArgument("P15", q, () -> q.planned(0, -1));
    }

    private static void remaining() {
        VirtualQueue q = Checks.park("ride 20 50 2 0 143;ride 20 50 2 0 143;tier 5 144 0 0;party 0 4;party 0 5;party 0 3;extension 0;");
        Checks.due("P16 all", q.remaining(0, 0), 10);
        q.issue(0, 0, 0);
        q.issue(1, 0, 0);
        Checks.due("P16 charged to the start", q.remaining(0, 0), 1);
        Checks.due("P16 not to the rest of the window", q.remaining(0, 1), 10);
        Checks.due("P16 not to another ride", q.remaining(1, 0), 10);
        q.redeem(0);
        Checks.due("P16 USED stays charged", q.remaining(0, 0), 1);
        q.advance(2);
        Checks.due("P16 EXPIRED is", q.ticketState(1), VirtualQueue.EXPIRED);
        Checks.due("P16 EXPIRED stays charged", q.remaining(0, 0), 1);
        q.issue(2, 0, 3);
        Checks.due("P16", q.remaining(0, 3), 7);
        q.cancel(2);
        Checks.due("P16 CANCELLED is not charged", q.remaining(0, 3), 10);
        q.issue(2, 1, 2);
        q.breakDown(1);
        q.advance(1);
        Checks.due("P16 OPEN is", q.ticketState(3), VirtualQueue.OPEN);
        Checks.due("P16 OPEN stays charged", q.remaining(1, 2), 7);
        q.setShare(0, 20);
        Checks.due("P16 may be negative in the past", q.remaining(0, 0), -5);
        Checks.noIndex("P16", q, () -> q.remaining(2, 0));
        Checks.noIndex("P16", q, () -> q.remaining(-1, 0));
        Checks.noIndex("P16 the ride is checked first", q, () -> q.remaining(2, -1));
        Checks.noArgument("P16", q, () -> q.remaining(0, 144));
        Checks.noArgument("P16", q, () -> q.remaining(0, -1));
    }
}
