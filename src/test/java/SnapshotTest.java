/** Promises 61 to 64: snapshots and the formatted text. */
public final class SnapshotTest {
    private static final int NONE = VirtualQueue.NONE;

    public static void main(String[] args) {
        everything();
        slots();
        notInIt();
        otherPark();
        format();
        Checks.end();
    }

    /** A park in which something of everything has happened. */
    private static VirtualQueue busy() {
        VirtualQueue q = Checks.park("ride 20 50 3 0 99;ride 10 40 2 0 143;ride 12 100 2 0 143;tier 4 144 3 0;tier 3 100 0 4;"
                + "party 0 4;party 0 5;party 1 6;party 1 2;extension 2;");
        q.issue(0, 0, 1);
        q.issue(1, 0, 2);
        q.issue(3, 1, 0);
        q.issue(2, 2, 9);
        q.joinWaitlist(2, 0);
        q.joinWaitlist(1, 1);
        q.joinStandby(0, 12);
        q.joinStandby(0, 9);
        q.joinStandby(1, 11);
        q.redeem(2);
        q.advance(1);
        q.redeem(0);
        q.breakDown(0);
        q.advance(1);
        q.addParty(1, 3);
        q.setShare(2, 70);
        return q;
    }

    /** Changes all that a snapshot holds. */
    private static void disturb(VirtualQueue q) {
        q.setExtensionLimit(0);
        q.repair(0);
        q.breakDown(1);
        q.redeem(1);
        q.cancel(3);
        q.leaveWaitlist(1, 1);
        q.joinWaitlist(0, 2);
        q.setShare(2, 10);
        q.addParty(0, 9);
        q.joinStandby(0, 1);
        q.joinStandby(2, 5);
        q.issue(4, 0, 0);
        q.advance(30);
    }

    private static void everything() {
        VirtualQueue q = busy();
        String before = Checks.seen(q);
        Checks.due("P61", q.saveSnapshot(0), true);
        Checks.due("P61 changes nothing", Checks.seen(q), before);
        disturb(q);
        Checks.due("it is all changed", Checks.seen(q).equals(before), false);
        Checks.due("P62", q.restoreSnapshot(0), true);
        Checks.due("P62 all is back", Checks.seen(q), before);
        disturb(q);
        q.advance(50);
        Checks.due("P62 it stays in its slot", q.restoreSnapshot(0), true);
        Checks.due("P62 all is back again", Checks.seen(q), before);
        // what cannot be seen at once: the extension limit, pauses, who joined when
        VirtualQueue twin = busy();
        Checks.due("P62 pause", q.issue(0, 1, 0), twin.issue(0, 1, 0));
        q.advance(1);
        twin.advance(1);
        Checks.due("P62 pause", q.issue(0, 1, 0), twin.issue(0, 1, 0));
        q.advance(4);
        twin.advance(4);
        q.repair(0);
        twin.repair(0);
        q.advance(4);
        twin.advance(4);
        Checks.due("P62 goes on alike", Checks.seen(q), Checks.seen(twin));
    }

    private static void slots() {
        VirtualQueue q = busy();
        String first = Checks.seen(q);
        for (int slot : new int[] {-1, 2, Integer.MAX_VALUE, Integer.MIN_VALUE}) {
            Checks.refused("P61", q, () -> q.saveSnapshot(slot), false);
            Checks.refused("P62", q, () -> q.restoreSnapshot(slot), false);
        }
        q.saveSnapshot(1);
        Checks.refused("P62 nothing in slot 0", q, () -> q.restoreSnapshot(0), false);
        q.advance(3);
        String second = Checks.seen(q);
        q.saveSnapshot(0);
        q.advance(3);
        q.restoreSnapshot(1);
        Checks.due("P62 slot 1", Checks.seen(q), first);
        q.restoreSnapshot(0);
        Checks.due("P62 slot 0", Checks.seen(q), second);
        q.advance(1);
        String third = Checks.seen(q);
        q.saveSnapshot(1);
        q.restoreSnapshot(0);
        q.restoreSnapshot(1);
        Checks.due("P61 replaces the earlier one", Checks.seen(q), third);
    }

    private static void notInIt() {
        VirtualQueue q = busy();
        q.formatItinerary(1);
        q.saveSnapshot(0);
        Checks.loadScript(q, "at 9 break 0;at x");
        Checks.loadScript(q, "at 9 break 0;");
        Checks.loadPark(q, "nothing");
        q.appendInput(0x20202020, 0x20202020, 0x20202020, 0x20202020, 0x20202020);
        q.formatItinerary(0);
        String text = Checks.formatted(q);
        q.restoreSnapshot(0);
        Checks.due("P62 not the buffer", q.truncateInput(20), 20);
        Checks.due("P62 not the error", q.errorCode(), 1);
        Checks.due("P62 not the error", q.errorPosition(), 0);
        Checks.due("P62 not the script", q.scriptLength(), 1);
        Checks.due("P62 not the text", Checks.formatted(q), text);
    }

    private static void otherPark() {
        VirtualQueue q = busy();
        q.saveSnapshot(0);
        q.saveSnapshot(1);
        Checks.loadPark(q, "ride 1 1 1 1 1;");
        Checks.refused("P4 no snapshots", q, () -> q.restoreSnapshot(0), false);
        Checks.refused("P4 no snapshots", q, () -> q.restoreSnapshot(1), false);
        String park = Checks.seen(q);
        Checks.due("P61 a new one", q.saveSnapshot(1), true);
        q.advance(1);
        Checks.due("P62 the new one", q.restoreSnapshot(1), true);
        Checks.due("P62 the new one", Checks.seen(q), park);
        VirtualQueue empty = new VirtualQueue();
        empty.saveSnapshot(0);
        empty.advance(7);
        Checks.due("P62 of an empty park", empty.restoreSnapshot(0), true);
        Checks.due("P62 of an empty park", empty.now(), 0);
    }

    private static void format() {
        VirtualQueue q = Checks.park("ride 20 50 3 0 143;".repeat(4) + "ride 20 50 24 0 143;" + "tier 5 144 0 0;party 0 4;party 0 5;extension 48;");
        Checks.due("P64 nothing yet", q.formattedByte(0), NONE);
        Checks.due("P63 empty", q.formatItinerary(0), 0);
        Checks.due("P64 empty", q.formattedByte(0), NONE);
        q.issue(0, 3, 99);
        q.issue(0, 1, 7);
        q.issue(0, 0, 100);
        q.issue(0, 2, 8);
        q.issue(0, 4, 143);
        q.issue(1, 0, 0);
        String due = "1@7-9;2@10-12;3@99-101;0@102-104;4@143-166;";
        Checks.due("P63 length", q.formatItinerary(0), due.length());
        Checks.due("P64 text", Checks.formatted(q), due);
        Checks.due("P64 a byte", q.formattedByte(1), 64);
        Checks.due("P64 the last", q.formattedByte(due.length() - 1), 59);
        Checks.due("P64 beyond", q.formattedByte(due.length()), NONE);
        Checks.due("P64 negative", q.formattedByte(-1), NONE);
        Checks.due("P64 extreme", q.formattedByte(Integer.MAX_VALUE), NONE);
        Checks.due("P64 extreme", q.formattedByte(Integer.MIN_VALUE), NONE);
        Checks.noIndex("P63", q, () -> q.formatItinerary(2));
        Checks.noIndex("P63", q, () -> q.formatItinerary(-1));
        q.cancel(1);
        Checks.due("P64 stays as it was formatted", Checks.formatted(q), due);
        Checks.due("P63 only ACTIVE ones", q.formatItinerary(0), due.length() - 6);
        Checks.due("P63 a shorter text", q.formatItinerary(1), 6);
        Checks.due("P64 a shorter text", Checks.formatted(q), "0@0-2;");
        q.moveTicket(5, 100);
        q.breakDown(0);
        q.advance(103);
        q.formatItinerary(1);
        Checks.due("P63 extended", Checks.formatted(q), "0@100-105;");
        longest();
    }

    /** Five tickets with all their numbers as long as they can be. */
    private static void longest() {
        VirtualQueue q = Checks.park("ride 20 50 1 0 143;".repeat(5) + "tier 5 144 0 0;party 0 4;extension 48;");
        for (int ride = 0; ride < 5; ride++) {
            q.issue(0, ride, 100);
        }
        Checks.due("P63 the longest", q.formatItinerary(0), 50);
        Checks.due("P64 the longest", Checks.formatted(q), "0@100-100;1@101-101;2@102-102;3@103-103;4@104-104;");
    }
}
