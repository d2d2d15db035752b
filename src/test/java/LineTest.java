/** Promises 34 to 49: waitlists, lines, the passing of slots, rides that are down, and waiting times. */
public final class LineTest {
    private static final int NONE = VirtualQueue.NONE;
    private static final int DUPLICATE = VirtualQueue.DUPLICATE;
    private static final int NOT_ALLOWED = VirtualQueue.NOT_ALLOWED;
    private static final int FULL = VirtualQueue.FULL;
    private static final int ACTIVE = VirtualQueue.ACTIVE;
    private static final int EXPIRED = VirtualQueue.EXPIRED;
    private static final int OPEN = VirtualQueue.OPEN;

    public static void main(String[] args) {
        waitlist();
        waitlistIsRefused();
        standby();
        advance();
        boarding();
        groupsAsAWhole();
        operatingSlots();
        waits();
        extensions();
        expiry();
        downAndRepair();
        share();
        extensionLimit();
        forecast();
        forecastWithMerge();
        Checks.end();
    }

    private static String list(VirtualQueue q, int ride) {
        StringBuilder all = new StringBuilder();
        for (int k = 0; q.waitlistAt(ride, k) != NONE; k++) {
            all.append(q.waitlistAt(ride, k)).append(' ');
        }
        return all.toString();
    }

    private static void waitlist() {
        VirtualQueue q = Checks.park("ride 20 50 1 0 99;ride 20 50 1 0 99;tier 5 144 0 5;tier 5 144 0 0;tier 5 144 0 9;tier 5 144 0 5;"
                + "party 0 1;party 1 1;party 2 1;party 3 1;party 0 1;party 1 1;");
        Checks.due("P34 first", q.joinWaitlist(4, 0), 0);
        Checks.due("P34 same rank, later", q.joinWaitlist(3, 0), 1);
        Checks.due("P34 same rank, later", q.joinWaitlist(0, 0), 2);
        Checks.due("P34 highest rank", q.joinWaitlist(2, 0), 3);
        Checks.due("P34 lowest rank", q.joinWaitlist(1, 0), 0);
        Checks.due("P34 behind the same rank", q.joinWaitlist(5, 0), 1);
        Checks.due("P36 order", list(q, 0), "1 5 4 3 0 2 ");
        Checks.due("P36 other ride", list(q, 1), "");
        Checks.due("P35", q.leaveWaitlist(4, 0), true);
        Checks.due("P35 order", list(q, 0), "1 5 3 0 2 ");
        Checks.due("P35 joins again behind", q.joinWaitlist(4, 0), 4);
        Checks.due("P35 the last", q.leaveWaitlist(2, 0), true);
        Checks.due("P35 the first", q.leaveWaitlist(1, 0), true);
        Checks.due("P36 order", list(q, 0), "5 3 0 4 ");
        q.breakDown(0);
        Checks.due("P34 also while the ride is down", q.joinWaitlist(1, 0), 1);
        q.advance(144);
        Checks.due("P34 also when the day is over", q.joinWaitlist(2, 0), 5);
    }

    private static void waitlistIsRefused() {
        VirtualQueue q = Checks.park("ride 20 50 1 0 99;ride 20 50 1 0 99;tier 5 144 0 5;party 0 1;party 0 1;");
        q.joinWaitlist(0, 0);
        q.issue(1, 1, 0);
        Checks.refused("P34 on it already", q, () -> q.joinWaitlist(0, 0), DUPLICATE);
        Checks.refused("P34 has a ticket", q, () -> q.joinWaitlist(1, 1), DUPLICATE);
        Checks.refused("P35 not on it", q, () -> q.leaveWaitlist(1, 0), false);
        Checks.refused("P35 not on that one", q, () -> q.leaveWaitlist(0, 1), false);
        Checks.refused("P36 not that long", q, () -> q.waitlistAt(0, 1), NONE);
        Checks.refused("P36 negative", q, () -> q.waitlistAt(0, -1), NONE);
        Checks.refused("P36 extreme", q, () -> q.waitlistAt(0, Integer.MAX_VALUE), NONE);
        int[][] none = {{2, 0}, {-1, 0}, {0, 2}, {0, -1}};
        for (int[] a : none) {
            Checks.noIndex("P34", q, () -> q.joinWaitlist(a[0], a[1]));
            Checks.noIndex("P35", q, () -> q.leaveWaitlist(a[0], a[1]));
        }
        Checks.noIndex("P36", q, () -> q.waitlistAt(2, 0));
        Checks.noIndex("P36", q, () -> q.waitlistAt(-1, 0));
        q.redeem(0);
        Checks.due("P34 a used ticket does not matter", q.joinWaitlist(1, 1), 0);
    }

    private static void standby() {
        VirtualQueue q = Checks.park("ride 20 50 1 0 99;ride 20 50 1 5 99;");
        Checks.due("P38 empty", q.standbyPersons(1), 0);
        for (int k = 1; k <= 60; k++) {
            Checks.due("P37", q.joinStandby(1, 1 + k % 12), k);
        }
        Checks.refused("P37 full", q, () -> q.joinStandby(1, 1), FULL);
        Checks.due("P37 the other one is not", q.joinStandby(0, 12), 1);
        Checks.due("P38", q.standbyPersons(1), 5 * 78);
        Checks.due("P38", q.standbyPersons(0), 12);
        Checks.noIndex("P37", q, () -> q.joinStandby(2, 1));
        Checks.noIndex("P37", q, () -> q.joinStandby(-1, 1));
        Checks.noIndex("P37 the ride is checked first", q, () -> q.joinStandby(2, 0));
        Checks.noArgument("P37", q, () -> q.joinStandby(0, 0));
        Checks.noArgument("P37", q, () -> q.joinStandby(0, 13));
        Checks.noArgument("P37 exceptions come before FULL", q, () -> q.joinStandby(1, 13));
        Checks.noIndex("P38", q, () -> q.standbyPersons(2));
        Checks.noIndex("P38", q, () -> q.standbyPersons(-1));
        Checks.noIndex("P39", q, () -> q.mergePersons(2));
        Checks.noIndex("P39", q, () -> q.mergePersons(-1));
        q.breakDown(0);
        Checks.due("P37 also while it is down", q.joinStandby(0, 1), 2);
        q.advance(6);
        // slot 5 boards 2 + 3 + 4 + 5 + 6 = 20
        Checks.due("P38 after boarding", q.standbyPersons(1), 390 - 20);
        Checks.due("P37 there is room again", q.joinStandby(1, 1), 56);
    }

    private static void advance() {
        VirtualQueue q = Checks.park("ride 20 50 1 0 99;");
        Checks.loadScript(q, "at 1 break 0;");
        Checks.noArgument("P40", q, () -> q.advance(0));
        Checks.noArgument("P40", q, () -> q.advance(-1));
        Checks.noArgument("P40", q, () -> q.advance(145));
        Checks.noArgument("P40", q, () -> q.advance(Integer.MAX_VALUE));
        Checks.noArgument("P40", q, () -> q.advance(Integer.MIN_VALUE));
        Checks.due("P40", q.advance(4), 4);
        Checks.due("P40 without the script", q.isDown(0), false);
        Checks.due("P40 removes no entry", q.scriptLength(), 1);
        Checks.noArgument("P40 beyond the day", q, () -> q.advance(141));
        Checks.due("P40 to the end", q.advance(140), 144);
        Checks.noArgument("P40 beyond the day", q, () -> q.advance(1));
    }

    /** Lets each party redeem a ticket for ride 0 in slot 0 (the rides' shares are set so that all get it). */
    private static void redeemAll(VirtualQueue q) {
        for (int party = 0; party < q.partyCount(); party++) {
            int ticket = q.issue(party, 0, 0);
            Checks.due("a ticket in slot " + q.now(), q.ticketStart(ticket), q.now());
            Checks.due("redeemed", q.redeem(ticket), true);
        }
    }

    private static void boarding() {
        VirtualQueue q = Checks.park("ride 20 100 1 0 99;tier 5 144 0 0;party 0 4;party 0 5;party 0 3;party 0 8;");
        redeemAll(q);
        Checks.due("P39", q.mergePersons(0), 20);
        q.advance(1);
        Checks.due("P39 all boarded", q.mergePersons(0), 0);
        Checks.due("P46 merge", q.boarded(0, true), 20);
        VirtualQueue p = Checks.park("ride 20 50 2 0 99;tier 5 144 0 0;party 0 4;party 0 5;party 0 3;party 0 6;");
        p.issue(0, 0, 0);
        p.issue(1, 0, 0);
        p.issue(2, 0, 1);
        p.issue(3, 0, 1);
        p.redeem(0);
        p.redeem(1);
        p.advance(1);
        Checks.due("P46 merge", p.boarded(0, true), 9);
        p.redeem(2);
        p.redeem(3);
        p.joinStandby(0, 6);
        p.joinStandby(0, 4);
        p.joinStandby(0, 2);
        Checks.due("P39", p.mergePersons(0), 9);
        p.advance(1);
        // (a) 3 + 6; (b) 6 + 4 = 19 in all, 2 would make 21
        Checks.due("P46 merge", p.boarded(0, true), 18);
        Checks.due("P46 standby", p.boarded(0, false), 10);
        Checks.due("P38", p.standbyPersons(0), 2);
        Checks.noIndex("P46", p, () -> p.boarded(1, true));
        Checks.noIndex("P46", p, () -> p.boarded(-1, false));
    }

    private static void groupsAsAWhole() {
        // planned 10 of 20; open tickets of another ride fill the merge line beyond the plan
        VirtualQueue q = Checks.park("ride 20 50 1 0 99;ride 200 100 1 0 99;tier 5 144 0 0;"
                + "party 0 8;party 0 3;party 0 2;party 0 9;party 0 1;extension 0;");
        for (int party = 0; party < 5; party++) {
            q.issue(party, 1, 0);
        }
        q.breakDown(1);
        q.advance(1);
        for (int ticket = 0; ticket < 5; ticket++) {
            Checks.due("P24", q.redeemOpen(ticket, 0), true);
        }
        q.joinStandby(0, 7);
        q.joinStandby(0, 6);
        Checks.due("P39", q.mergePersons(0), 23);
        q.advance(1);
        // (a) 8, and 3 would make 11; (b) 7 makes 15, 6 would make 21; (c) 3 and 2 make 20, 9 would exceed it
        Checks.due("P46 merge (a) and (c)", q.boarded(0, true), 13);
        Checks.due("P46 standby (b)", q.boarded(0, false), 7);
        Checks.due("P39 left", q.mergePersons(0), 10);
        Checks.due("P38 left", q.standbyPersons(0), 6);
        q.advance(1);
        // (a) 9 + 1 = 10; (b) 6
        Checks.due("P46 merge", q.boarded(0, true), 23);
        Checks.due("P46 standby", q.boarded(0, false), 13);
        VirtualQueue big = Checks.park("ride 5 50 1 0 99;");
        big.joinStandby(0, 6);
        big.joinStandby(0, 1);
        big.advance(99);
        Checks.due("P40 the first group blocks the line", big.boarded(0, false), 0);
    }

    private static void operatingSlots() {
        VirtualQueue q = Checks.park("ride 20 50 1 3 4;");
        q.joinStandby(0, 12);
        q.joinStandby(0, 12);
        q.advance(3);
        Checks.due("P40 not before the first slot", q.boarded(0, false), 0);
        q.breakDown(0);
        q.advance(1);
        Checks.due("P40 not while it is down", q.boarded(0, false), 0);
        q.repair(0);
        q.advance(1);
        Checks.due("P40 in the last slot", q.boarded(0, false), 12);
        q.advance(100);
        Checks.due("P40 not after the last slot", q.boarded(0, false), 12);
        Checks.due("P38 who is left", q.standbyPersons(0), 12);
    }

    private static void waits() {
        VirtualQueue q = Checks.park("ride 10 50 4 0 99;ride 10 50 4 0 99;tier 5 144 0 0;party 0 2;");
        Checks.due("P47", Checks.result(() -> q.averageWait(0)), "ArithmeticException");
        Checks.due("P48 none", q.longestWait(0), 0);
        q.joinStandby(0, 8);
        q.joinStandby(0, 7);
        q.joinStandby(0, 6);
        q.advance(1);
        Checks.due("P47", q.averageWait(0), 0.0);
        q.advance(1);
        Checks.due("P47", q.averageWait(0), 0.5);
        Checks.due("P48", q.longestWait(0), 1);
        q.issue(0, 0, 2);
        q.redeem(0);
        q.breakDown(0);
        q.advance(5);
        q.repair(0);
        q.advance(1);
        // 0, 1, the merge group 5 and the third one 7
        Checks.due("P47 both lines", q.averageWait(0), 13.0 / 4);
        Checks.due("P48", q.longestWait(0), 7);
        q.joinStandby(0, 1);
        q.advance(1);
        Checks.due("P48 stays", q.longestWait(0), 7);
        Checks.due("P47", q.averageWait(0), 13.0 / 5);
        Checks.due("P48 other ride", q.longestWait(1), 0);
        Checks.due("P47 other ride", Checks.result(() -> q.averageWait(1)), "ArithmeticException");
        Checks.noIndex("P47", q, () -> q.averageWait(2));
        Checks.noIndex("P47", q, () -> q.averageWait(-1));
        Checks.noIndex("P48", q, () -> q.longestWait(2));
        Checks.noIndex("P48", q, () -> q.longestWait(-1));
    }

    private static void extensions() {
        VirtualQueue q = Checks.park("ride 20 50 3 0 99;ride 20 50 3 0 99;tier 5 144 0 0;party 0 2;party 0 3;party 0 4;extension 2;");
        q.issue(0, 0, 1);
        q.issue(1, 0, 3);
        q.issue(2, 1, 1);
        q.breakDown(0);
        q.advance(1);
        Checks.due("P40 not before its window", Checks.ticket(q, 0), "0 0 1-3 state 0 extension 0");
        q.advance(1);
        Checks.due("P40 extended", Checks.ticket(q, 0), "0 0 1-4 state 0 extension 1");
        Checks.due("P40 not the later one", Checks.ticket(q, 1), "1 0 3-5 state 0 extension 0");
        Checks.due("P40 not another ride", Checks.ticket(q, 2), "2 1 1-3 state 0 extension 0");
        q.advance(1);
        Checks.due("P40 extended again", Checks.ticket(q, 0), "0 0 1-5 state 0 extension 2");
        q.advance(1);
        Checks.due("P40 reissued", Checks.ticket(q, 0), "0 0 1-5 state 4 extension 2");
        Checks.due("P40 the later one", Checks.ticket(q, 1), "1 0 3-6 state 0 extension 1");
        Checks.due("P40 another ride", q.ticketState(2), EXPIRED);
        q.repair(0);
        q.advance(2);
        Checks.due("P40 still good", q.ticketState(1), ACTIVE);
        q.advance(1);
        Checks.due("P40 to its end", q.ticketState(1), EXPIRED);
        Checks.due("P40 stays OPEN", q.ticketState(0), OPEN);
        q.advance(100);
        Checks.due("P40 stays OPEN", q.ticketState(0), OPEN);
    }

    private static void expiry() {
        VirtualQueue q = Checks.park("ride 20 50 2 0 99;tier 5 144 0 0;party 0 2;party 0 3;extension 0;");
        q.issue(0, 0, 0);
        q.issue(1, 0, 1);
        q.advance(1);
        Checks.due("P40 not before its end", q.ticketState(0), ACTIVE);
        q.breakDown(0);
        q.advance(1);
        // (2) comes before (3): in its last slot it becomes OPEN, not EXPIRED
        Checks.due("P40 OPEN before EXPIRED", q.ticketState(0), OPEN);
        Checks.due("P40 OPEN before EXPIRED", q.ticketState(1), OPEN);
        VirtualQueue late = Checks.park("ride 20 50 2 0 143;tier 5 144 0 0;party 0 2;party 0 3;");
        late.issue(0, 0, 142);
        late.issue(1, 0, 143);
        late.advance(144);
        Checks.due("P40 ends with the day", late.ticketState(0), EXPIRED);
        Checks.due("P40 ends behind the day", late.ticketState(1), ACTIVE);
    }

    private static void downAndRepair() {
        VirtualQueue q = Checks.park("ride 5 100 1 0 99;ride 20 50 2 0 99;tier 5 144 0 0;party 0 2;party 0 3;party 0 4;");
        Checks.due("P41", q.isDown(0), false);
        Checks.refused("P43 not down", q, () -> q.repair(0), NONE);
        Checks.due("P42", q.breakDown(0), true);
        Checks.due("P41", q.isDown(0), true);
        Checks.due("P41 the other", q.isDown(1), false);
        Checks.refused("P42 again", q, () -> q.breakDown(0), false);
        q.joinWaitlist(2, 0);
        q.joinWaitlist(1, 0);
        q.joinWaitlist(0, 0);
        q.joinWaitlist(0, 1);
        Checks.due("P43", q.repair(0), 3);
        Checks.due("P41", q.isDown(0), false);
        Checks.due("P43 in order", Checks.ticket(q, 0), "2 0 0-0 state 0 extension 0");
        Checks.due("P43 in order", Checks.ticket(q, 1), "1 0 1-1 state 0 extension 0");
        Checks.due("P43 in order", Checks.ticket(q, 2), "0 0 1-1 state 0 extension 0");
        Checks.due("P43 only its waitlist", q.waitlistAt(1, 0), 0);
        for (int ride : new int[] {2, -1}) {
            Checks.noIndex("P41", q, () -> q.isDown(ride));
            Checks.noIndex("P42", q, () -> q.breakDown(ride));
            Checks.noIndex("P43", q, () -> q.repair(ride));
        }
        q.breakDown(1);
        q.advance(144);
        Checks.due("P43 when the day is over", q.repair(1), 0);
        Checks.due("P43 stays on the waitlist", q.waitlistAt(1, 0), 0);
    }

    private static void share() {
        VirtualQueue q = Checks.park("ride 20 50 1 0 1;tier 5 144 0 0;party 0 8;party 0 9;party 0 10;party 0 11;");
        q.issue(0, 0, 0);
        q.issue(1, 0, 1);
        q.joinWaitlist(2, 0);
        q.joinWaitlist(3, 0);
        Checks.refused("P44 slot 1 would be negative", q, () -> q.setShare(0, 44), NOT_ALLOWED);
        Checks.due("P44 just enough", q.setShare(0, 45), 0);
        Checks.due("P15 the new share", q.planned(0, 0), 9);
        Checks.due("P44 two from the waitlist", q.setShare(0, 100), 2);
        Checks.due("P44 the first", Checks.ticket(q, 2), "2 0 0-0 state 0 extension 0");
        Checks.due("P44 the second", Checks.ticket(q, 3), "3 0 1-1 state 0 extension 0");
        q.advance(1);
        Checks.refused("P44 slot 1 has 20", q, () -> q.setShare(0, 99), NOT_ALLOWED);
        q.cancel(3);
        Checks.due("P44 past slots do not count", q.setShare(0, 45), 0);
        Checks.due("P16", q.remaining(0, 0), -9);
        q.advance(1);
        Checks.due("P44 past slots do not count", q.setShare(0, 0), 0);
        Checks.noIndex("P44", q, () -> q.setShare(1, 0));
        Checks.noIndex("P44", q, () -> q.setShare(-1, 0));
        Checks.noIndex("P44 the ride is checked first", q, () -> q.setShare(1, 101));
        Checks.noArgument("P44", q, () -> q.setShare(0, 101));
        Checks.noArgument("P44", q, () -> q.setShare(0, -1));
        VirtualQueue down = Checks.park("ride 20 0 1 0 1;tier 5 144 0 0;party 0 8;");
        down.joinWaitlist(0, 0);
        down.breakDown(0);
        Checks.due("P44 down: nobody is served", down.setShare(0, 50), 0);
        Checks.due("P44 the share counts", down.planned(0, 0), 10);
        Checks.due("P44 stays on the waitlist", down.waitlistAt(0, 0), 0);
        down.advance(144);
        Checks.due("P44 when the day is over", down.setShare(0, 100), 0);
    }

    private static void extensionLimit() {
        VirtualQueue q = Checks.park("ride 20 50 1 0 99;tier 5 144 0 0;party 0 8;");
        q.issue(0, 0, 0);
        q.breakDown(0);
        Checks.refused("P45", q, () -> q.setExtensionLimit(49), false);
        Checks.refused("P45", q, () -> q.setExtensionLimit(-1), false);
        Checks.due("P45 most", q.setExtensionLimit(48), true);
        q.advance(48);
        Checks.due("P45 48 slots", Checks.ticket(q, 0), "0 0 0-48 state 0 extension 48");
        q.advance(1);
        Checks.due("P45 no more", q.ticketState(0), OPEN);
        VirtualQueue less = Checks.park("ride 20 50 1 0 99;tier 5 144 0 0;party 0 8;");
        less.issue(0, 0, 0);
        less.breakDown(0);
        less.advance(3);
        Checks.due("P45 least", less.setExtensionLimit(0), true);
        less.advance(1);
        Checks.due("P45 counts at once", Checks.ticket(less, 0), "0 0 0-3 state 4 extension 3");
    }

    private static void forecast() {
        VirtualQueue q = Checks.park("ride 10 50 1 2 9;ride 10 50 1 0 99;");
        Checks.due("P49 until its first slot", q.forecastStandby(0, 10), 2);
        Checks.due("P49 too large", q.forecastStandby(0, 11), NONE);
        Checks.due("P49 at once", q.forecastStandby(1, 10), 0);
        for (int k = 0; k < 6; k++) {
            q.joinStandby(0, 8);
        }
        Checks.due("P49 beside the last", q.forecastStandby(0, 2), 7);
        Checks.due("P49 behind the last", q.forecastStandby(0, 3), 8);
        q.joinStandby(0, 8);
        q.joinStandby(0, 8);
        Checks.refused("P49 beside the last", q, () -> q.forecastStandby(0, 2), 9);
        Checks.refused("P49 not on this day", q, () -> q.forecastStandby(0, 3), NONE);
        q.advance(1);
        Checks.due("P49 from now on", q.forecastStandby(0, 2), 8);
        q.breakDown(0);
        Checks.due("P49 stays down", q.forecastStandby(0, 1), NONE);
        Checks.due("P49 the other not", q.forecastStandby(1, 1), 0);
        q.advance(99);
        Checks.due("P49 after its last slot", q.forecastStandby(1, 1), NONE);
        Checks.noIndex("P49", q, () -> q.forecastStandby(2, 1));
        Checks.noIndex("P49", q, () -> q.forecastStandby(-1, 1));
        Checks.noIndex("P49 the ride is checked first", q, () -> q.forecastStandby(2, 0));
        Checks.noArgument("P49", q, () -> q.forecastStandby(0, 0));
        Checks.noArgument("P49", q, () -> q.forecastStandby(0, 13));
        VirtualQueue full = Checks.park("ride 12 50 1 0 143;");
        for (int k = 0; k < 60; k++) {
            full.joinStandby(0, 12);
        }
        Checks.due("P49 even if it is full", full.forecastStandby(0, 1), 60);
        full.advance(84);
        for (int k = 0; k < 59; k++) {
            full.joinStandby(0, 12);
        }
        Checks.due("P49 in the last slot", full.forecastStandby(0, 12), 59);
        full.joinStandby(0, 12);
        Checks.due("P49 not any more", full.forecastStandby(0, 12), NONE);
    }

    private static void forecastWithMerge() {
        // planned 10 of 20, a merge line of 8, 3, 2, 9, 1 and a standby line of 7, 6, as in groupsAsAWhole()
        VirtualQueue q = Checks.park("ride 20 50 1 0 99;ride 200 100 1 0 99;tier 5 144 0 0;"
                + "party 0 8;party 0 3;party 0 2;party 0 9;party 0 1;extension 0;");
        for (int party = 0; party < 5; party++) {
            q.issue(party, 1, 0);
        }
        q.breakDown(1);
        q.advance(1);
        for (int ticket = 0; ticket < 5; ticket++) {
            q.redeemOpen(ticket, 0);
        }
        Checks.due("P49 12 places are left by (a)", q.forecastStandby(0, 12), 0);
        q.joinStandby(0, 7);
        Checks.due("P49 before the merge line in (c)", q.forecastStandby(0, 5), 0);
        Checks.due("P49 the next slot", q.forecastStandby(0, 6), 1);
        q.joinStandby(0, 6);
        // next slot: (a) 9 + 1, (b) 6 and 4 more
        Checks.due("P49 the next slot", q.forecastStandby(0, 4), 1);
        Checks.due("P49 the slot behind it", q.forecastStandby(0, 5), 2);
    }
}
