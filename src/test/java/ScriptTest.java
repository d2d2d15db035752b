/** Promises 59 and 60: what a script does when it is run. */
public final class ScriptTest {
    public static void main(String[] args) {
        actions();
        failures();
        slots();
        passedEntries();
        order();
        arguments();
        snapshotsAndScript();
        Checks.end();
    }

    private static VirtualQueue park() {
        return Checks.park("ride 20 50 3 0 99;ride 10 40 2 0 143;tier 1 144 0 0;party 0 4;party 0 5;party 0 6;");
    }

    private static void actions() {
        VirtualQueue q = park();
        Checks.loadScript(q, "at 0 issue 0 0 1;at 1 redeem 0;at 1 standby 0 7;at 1 issue 1 0 5;at 2 issue 2 0 5;"
                + "at 2 wait 2 0;at 2 cancel 1;at 3 break 1;at 4 repair 1;");
        Checks.due("P60", q.scriptLength(), 9);
        Checks.due("P59 issue", q.runScript(1), 1);
        Checks.due("P59 issue", Checks.ticket(q, 0), "0 0 1-3 state 0 extension 0");
        Checks.due("P60", q.scriptLength(), 8);
        Checks.due("P59 redeem, standby, issue", q.runScript(1), 3);
        Checks.due("P59 redeem", q.ticketState(0), VirtualQueue.USED);
        Checks.due("P59 boards before the slot passes", q.boarded(0, true), 4);
        Checks.due("P59 standby", q.boarded(0, false), 7);
        // party 2 (6) does not fit beside party 1 (5) in slot 5 and gets slot 6, so it may not wait
        Checks.due("P59 issue and cancel, not wait", q.runScript(1), 2);
        Checks.due("P59 issue", q.ticketStart(2), 6);
        Checks.due("P59 cancel", q.ticketState(1), VirtualQueue.CANCELLED);
        Checks.due("P59 break", q.runScript(1), 1);
        Checks.due("P59 break", q.isDown(1), true);
        Checks.due("P59 repair", q.runScript(1), 1);
        Checks.due("P59 repair", q.isDown(1), false);
        Checks.due("P60 none left", q.scriptLength(), 0);
        Checks.due("P11", q.now(), 5);
        Checks.due("P59 without entries", q.runScript(2), 0);
        Checks.due("P11", q.now(), 7);
        Checks.loadScript(q, "at 7 wait 1 1;at 7 wait 0 1;");
        Checks.due("P59 wait", q.runScript(1), 2);
        Checks.due("P59 wait", q.waitlistAt(1, 0), 1);
        Checks.due("P59 wait", q.waitlistAt(1, 1), 0);
    }

    private static void failures() {
        VirtualQueue q = park();
        // what is not there, what is refused and what is false
        Checks.loadScript(q, "at 0 issue 3 0 0;at 0 issue 0 2 0;at 0 redeem 0;at 0 cancel 0;at 0 wait 3 0;at 0 wait 0 2;"
                + "at 0 standby 2 1;at 0 break 2;at 0 repair 2;at 0 repair 0;at 0 issue 0 0 143;");
        String before = Checks.seen(q);
        Checks.due("P59 no success", q.runScript(1), 0);
        Checks.due("P60 all are removed", q.scriptLength(), 0);
        Checks.due("P59 nothing is done", q.ticketCount(), 0);
        VirtualQueue fresh = park();
        fresh.advance(1);
        Checks.due("P59 nothing but a slot", Checks.seen(q), Checks.seen(fresh));
        Checks.due("P59 a slot has passed", Checks.seen(q).equals(before), false);
        Checks.loadScript(q, "at 1 issue 0 0 5;at 1 redeem 0;at 1 cancel 0;at 1 cancel 0;at 1 break 0;at 1 break 0;"
                + "at 1 issue 1 0 0;at 1 repair 0;at 1 wait 1 0;at 1 wait 1 0;");
        // succeed: issue, cancel, break, repair, wait
        Checks.due("P59 some", q.runScript(1), 5);
        for (int k = 0; k < 60; k++) {
            q.joinStandby(1, 12);
        }
        Checks.loadScript(q, "at 2 standby 1 1;at 2 standby 0 1;");
        Checks.due("P59 a full line", q.runScript(1), 1);
    }

    private static void slots() {
        VirtualQueue q = park();
        Checks.loadScript(q, "at 0 standby 0 1;at 2 standby 0 2;at 2 standby 0 3;at 3 standby 0 4;at 143 standby 1 5;");
        Checks.due("P59 slots 0 to 2", q.runScript(3), 3);
        Checks.due("P60 two left", q.scriptLength(), 2);
        Checks.due("P59 boarded each in its slot", q.boarded(0, false), 6);
        Checks.due("P59 no waits", q.longestWait(0), 0);
        Checks.due("P59 the rest of the day", q.runScript(141), 2);
        Checks.due("P11", q.now(), 144);
        Checks.due("P59 in slot 143", q.boarded(1, false), 5);
    }

    private static void passedEntries() {
        VirtualQueue q = park();
        Checks.loadScript(q, "at 0 break 0;at 3 break 0;at 5 break 1;at 9 repair 0;");
        q.advance(4);
        Checks.due("P40 removes none", q.scriptLength(), 4);
        Checks.due("P59 nothing in slot 4", q.runScript(1), 0);
        Checks.due("P60 the passed ones are gone", q.scriptLength(), 2);
        Checks.due("P59 not executed", q.isDown(0), false);
        q.advance(1);
        Checks.due("P60", q.scriptLength(), 2);
        Checks.due("P59 nothing until 8", q.runScript(3), 0);
        Checks.due("P60 one left", q.scriptLength(), 1);
        Checks.due("P59 not executed", q.isDown(1), false);
        Checks.due("P59 repair fails", q.runScript(1), 0);
        Checks.due("P60 none left", q.scriptLength(), 0);
        Checks.loadScript(q, "at 3 break 0;at 10 break 1;");
        Checks.due("P59 only what is due", q.runScript(1), 1);
        Checks.due("P59 only what is due", q.isDown(0), false);
    }

    private static void order() {
        VirtualQueue q = park();
        Checks.loadScript(q, "at 1 break 0;at 1 repair 0;at 1 break 0;at 1 issue 0 0 0;at 1 repair 0;at 1 issue 0 0 0;");
        Checks.due("P59 in the order of the text", q.runScript(2), 5);
        Checks.due("P59 down before the slot passes", q.isDown(0), false);
        Checks.due("P59 one ticket", q.ticketCount(), 1);
    }

    private static void arguments() {
        VirtualQueue q = park();
        Checks.loadScript(q, "at 0 break 0;");
        for (int slots : new int[] {0, -1, 145, Integer.MAX_VALUE, Integer.MIN_VALUE}) {
            Checks.noArgument("P59", q, () -> q.runScript(slots));
        }
        q.advance(10);
        Checks.noArgument("P59 beyond the day removes no entry", q, () -> q.runScript(135));
        Checks.due("P59 to the end", q.runScript(134), 0);
        Checks.noArgument("P59 the day is over", q, () -> q.runScript(1));
    }

    private static void snapshotsAndScript() {
        VirtualQueue q = park();
        Checks.loadScript(q, "at 1 standby 0 1;at 2 standby 0 2;at 5 standby 0 3;");
        q.saveSnapshot(0);
        Checks.due("P59", q.runScript(2), 1);
        q.restoreSnapshot(0);
        Checks.due("P61 the script is not saved", q.scriptLength(), 2);
        Checks.due("P59 again up to slot 1", q.runScript(2), 0);
        Checks.due("P59 slot 2 comes", q.runScript(1), 1);
    }
}
