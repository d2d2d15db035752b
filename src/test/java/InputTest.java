/** Promises 1 to 7: a new object, the input buffer, the two readers and their errors. */
public final class InputTest {
    private static final int NONE = VirtualQueue.NONE;
    private static final int TEXT_ERROR = VirtualQueue.TEXT_ERROR;

    public static void main(String[] args) {
        newObject();
        buffer();
        bytesInOrder();
        parks();
        parkSyntax();
        parkRanges();
        parkLimits();
        errorsChangeNothing();
        parkReplacesAll();
        scripts();
        scriptErrors();
        Checks.end();
    }

    private static void newObject() {
        VirtualQueue q = new VirtualQueue();
        Checks.due("P1 seen", Checks.seen(q), "now 0 script 0 tiers 0 error 0/-1 text ");
        Checks.due("P1 rides", q.rideCount(), 0);
        Checks.due("P1 parties", q.partyCount(), 0);
        Checks.due("P1 tickets", q.ticketCount(), 0);
        Checks.due("P1 snapshot 0", q.restoreSnapshot(0), false);
        Checks.due("P1 snapshot 1", q.restoreSnapshot(1), false);
        Checks.due("P1 nothing formatted", q.formattedByte(0), NONE);
        Checks.due("P1 the day passes", q.advance(144), 144);
        Checks.due("P1 two objects are apart", new VirtualQueue().now(), 0);
    }

    private static void buffer() {
        VirtualQueue q = new VirtualQueue();
        Checks.due("P3 empty", q.truncateInput(0), 0);
        Checks.due("P3 above empty", q.truncateInput(1), NONE);
        for (int k = 1; k <= 75; k++) {
            Checks.due("P2 length", q.appendInput(0, 0, 0, 0, 0), 20 * k);
        }
        Checks.due("P2 beyond 1500", q.appendInput(0, 0, 0, 0, 0), NONE);
        Checks.due("P3 negative", q.truncateInput(-1), NONE);
        Checks.due("P3 1501", q.truncateInput(1501), NONE);
        Checks.due("P3 stays", q.truncateInput(1500), 1500);
        Checks.due("P3 1481", q.truncateInput(1481), 1481);
        Checks.due("P2 1501 would be", q.appendInput(0, 0, 0, 0, 0), NONE);
        Checks.due("P3 1481 stays", q.truncateInput(1482), NONE);
        Checks.due("P3 1480", q.truncateInput(1480), 1480);
        Checks.due("P2 just 1500", q.appendInput(0, 0, 0, 0, 0), 1500);
        Checks.due("P3 extreme", q.truncateInput(Integer.MAX_VALUE), NONE);
        Checks.due("P3 extreme", q.truncateInput(Integer.MIN_VALUE), NONE);
        Checks.due("P3 to 0", q.truncateInput(0), 0);
    }

    private static void bytesInOrder() {
        VirtualQueue q = new VirtualQueue();
        // "extension 4;exten" and "sion 7 ;", cut to pieces by truncation
        q.appendInput(0x65787465, 0x6E73696F, 0x6E20343B, 0x65787465, 0x6E736900);
        q.truncateInput(19);
        Checks.due("P2 behind a cut", q.appendInput(0x6F6E2037, 0x203B2020, 0x20202020, 0x0A0A0A0A, 0x20202020), 39);
        Checks.due("P2 text", q.loadPark(), 2);
        Checks.due("P4 empties the buffer", q.truncateInput(1), NONE);
        q.appendInput(0xFF202020, 0x20202020, 0x20202020, 0x20202020, 0x20202020);
        Checks.due("P2 byte 255", q.loadPark(), TEXT_ERROR);
        Checks.due("P4 empties the buffer on an error", q.truncateInput(1), NONE);
    }

    private static VirtualQueue parkOf(String text, int statements) {
        VirtualQueue q = new VirtualQueue();
        Checks.due("P4 " + text, Checks.loadPark(q, text), statements);
        Checks.due("P6 " + text, q.errorCode(), 0);
        Checks.due("P7 " + text, q.errorPosition(), NONE);
        return q;
    }

    private static void parks() {
        parkOf("", 0);
        parkOf(" \n \n", 0);
        VirtualQueue q = parkOf("ride 200 100 24 0 143;ride 1 0 1 143 143;tier 5 144 48 9;tier 1 1 0 0;party 1 12;party 0 1;", 6);
        Checks.due("P4 rides", q.rideCount(), 2);
        Checks.due("P4 tiers", q.tierCount(), 2);
        Checks.due("P4 parties", q.partyCount(), 2);
        Checks.due("P4 tier of party 0", q.partyTier(0), 1);
        Checks.due("P4 size of party 0", q.partySize(0), 12);
        Checks.due("P4 tier of party 1", q.partyTier(1), 0);
        Checks.due("P4 size of party 1", q.partySize(1), 1);
        Checks.due("P4 planned", q.planned(0, 0), 200);
        Checks.due("P4 planned", q.planned(1, 143), 0);
        parkOf("ride20 50 3 10 99;tier2 144 00000 1;party0 4;", 3);
        parkOf("\nride 20\n50 00003 10\n99\n;\n\ntier 2 144 0 1 ; party\n0 4;", 3);
        parkOf("extension 0;extension 48;", 2);
        parkOf("tier 1 1 0 0;tier 1 1 0 0;tier 1 1 0 0;tier 1 1 0 0;party 3 1;", 5);
        parkOf("extension 3;", 1);
    }

    private static void parkFails(String text, int code, int position) {
        VirtualQueue q = new VirtualQueue();
        Checks.due("P4 " + text, Checks.loadPark(q, text), TEXT_ERROR);
        Checks.due("P6 " + text, q.errorCode(), code);
        Checks.due("P7 " + text, q.errorPosition(), position);
    }

    private static void parkSyntax() {
        parkFails(";", 1, 0);
        parkFails("  ;", 1, 2);
        parkFails("5;", 1, 0);
        parkFails("rides 1 1 1 1 1;", 1, 0);
        parkFails("Ride 1 1 1 1 1;", 1, 0);
        parkFails("rid 1 1 1 1 1;", 1, 0);
        parkFails("aride 1 1 1 1 1;", 1, 0);
        parkFails("ridez 1 1 1 1 1;", 1, 0);
        parkFails("ride{ 1 1 1 1 1;", 1, 4);
        parkFails("ride` 1 1 1 1 1;", 1, 4);
        parkFails("ride 1: 1 1 1 1;", 1, 6);
        parkFails("ride 1/ 1 1 1 1;", 1, 6);
        parkFails("1ride 1 1 1 1 1;", 1, 0);
        parkFails("ride 1 1 1 1 1 ride;", 1, 15);
        parkFails("at 1 break 0;", 1, 0);
        parkFails("ride", 1, 4);
        parkFails("ride  \n", 1, 7);
        parkFails("ride 20 50 3 10 99", 1, 18);
        parkFails("ride 20 50 3 10 99  ", 1, 20);
        parkFails("ride 20 50 3 10;", 1, 15);
        parkFails("ride 20 50 3 10 99 5;", 1, 19);
        parkFails("ride 20 x 3 10 99;", 1, 8);
        parkFails("ride 000020 50 3 10 99;", 1, 5);
        parkFails("ride 123456 50 3 10 99;", 1, 5);
        parkFails("extensions 5;", 1, 0);
        parkFails("extensionss 5;", 1, 0);
        parkFails("abcdefghijk", 1, 0);
        parkFails("ride 20 50 3 10 99;\t", 1, 19);
        parkFails("ride 20 50\r3 10 99;", 1, 10);
        parkFails("ride -20 50 3 10 99;", 1, 5);
        parkFails("ride 20, 50 3 10 99;", 1, 7);
        parkFails("ride 20 50 3 10 99;;", 1, 19);
        parkFails("ride 20 50 3 10 99;" + (char) 233, 1, 19);
        parkFails("extension 5;" + (char) 0, 1, 12);
        parkFails("tier 1 1 0 0;party 0 abc;", 1, 21);
        parkFails("tier 1 1 0 0;party ; 0", 1, 19);
        parkFails("extension;", 1, 9);
    }

    private static void parkRanges() {
        parkFails("ride 0 50 3 10 99;", 2, 5);
        parkFails("ride 201 50 3 10 99;", 2, 5);
        parkFails("ride 99999 50 3 10 99;", 2, 5);
        parkFails("ride 20 101 3 10 99;", 2, 8);
        parkFails("ride 20 50 0 10 99;", 2, 11);
        parkFails("ride 20 50 25 10 99;", 2, 11);
        parkFails("ride 20 50 3 144 144;", 2, 13);
        parkFails("ride 20 50 3 10 9;", 2, 16);
        parkFails("ride 20 50 3 10 144;", 2, 16);
        parkFails("tier 0 144 0 0;", 2, 5);
        parkFails("tier 6 144 0 0;", 2, 5);
        parkFails("tier 1 0 0 0;", 2, 7);
        parkFails("tier 1 145 0 0;", 2, 7);
        parkFails("tier 1 144 49 0;", 2, 11);
        parkFails("tier 1 144 48 10;", 2, 14);
        parkFails("party 0 1;", 2, 6);
        parkFails("tier 1 1 0 0;party 1 1;", 2, 19);
        parkFails("party 0 1;tier 1 1 0 0;", 2, 6);
        parkFails("tier 1 1 0 0;party 0 0;", 2, 21);
        parkFails("tier 1 1 0 0;party 0 13;", 2, 21);
        parkFails("extension 49;", 2, 10);
        // the first error counts, from left to right
        parkFails("ride 0 x;", 2, 5);
        parkFails("ride x 0;", 1, 5);
        parkFails("extension 49 $", 2, 10);
    }

    private static void parkLimits() {
        StringBuilder eight = new StringBuilder();
        for (int k = 0; k < 8; k++) {
            eight.append("ride 1 1 1 1 1;");
        }
        parkOf(eight.toString(), 8);
        parkFails(eight + " ride 0 x", 3, 121);
        parkFails(eight + " ride", 3, 121);
        parkFails(eight + "rider", 1, 120);
        String four = "tier 1 1 0 0;tier 1 1 0 0;tier 1 1 0 0;tier 1 1 0 0;";
        parkOf(four, 4);
        parkFails(four + "tier 1 1 0 0;", 3, 52);
        StringBuilder fifty = new StringBuilder("tier 1 1 0 0;");
        for (int k = 0; k < 50; k++) {
            fifty.append("party 0 1;");
        }
        Checks.due("P4 fifty parties", parkOf(fifty.toString(), 51).partyCount(), 50);
        parkFails(fifty + "party 9 9;", 3, 513);
    }

    private static void errorsChangeNothing() {
        VirtualQueue q = Checks.park("ride 20 50 3 0 143;tier 2 144 0 0;party 0 4;extension 3;");
        Checks.loadScript(q, "at 5 break 0;");
        q.issue(0, 0, 0);
        q.formatItinerary(0);
        q.advance(1);
        q.saveSnapshot(1);
        String before = Checks.seen(q);
        Checks.due("P4 error", Checks.loadPark(q, "ride 1 1 1 1 1;tier 1 1 0 0;x"), TEXT_ERROR);
        Checks.due("P6", q.errorCode(), 1);
        Checks.due("P7", q.errorPosition(), 28);
        Checks.due("P5 error", Checks.loadScript(q, "at 1 break 0;at 0 break 0;"), TEXT_ERROR);
        Checks.due("P6 the later one", q.errorCode(), 2);
        Checks.due("P7 the later one", q.errorPosition(), 16);
        Checks.due("P5 no error again", Checks.loadScript(q, "at 7 break 0;"), 1);
        Checks.due("P4 and P5: only the buffer and the error change", Checks.seen(q), before);
        Checks.due("P4 snapshots stay", q.restoreSnapshot(1), true);
    }

    private static void parkReplacesAll() {
        VirtualQueue q = Checks.park("ride 20 50 3 0 143;ride 9 9 9 9 9;tier 2 144 0 0;party 0 4;party 0 5;extension 0;");
        Checks.loadScript(q, "at 5 break 0;at 6 repair 0;");
        q.issue(0, 0, 0);
        q.redeem(0);
        q.joinWaitlist(1, 0);
        q.joinStandby(0, 12);
        q.advance(1);
        q.joinStandby(0, 12);
        q.issue(0, 0, 5);
        q.breakDown(0);
        q.saveSnapshot(0);
        q.saveSnapshot(1);
        Checks.due("P63", q.formatItinerary(0), 6);
        Checks.due("P4", Checks.loadPark(q, "ride 10 50 1 0 143;tier 1 9 0 0;party 0 5;"), 3);
        VirtualQueue fresh = Checks.park("ride 10 50 1 0 143;tier 1 9 0 0;party 0 5;");
        Checks.due("P4 the text stays", Checks.formatted(q), "0@5-7;");
        Checks.due("P4 the rest is new", Checks.seen(q).replace("text 0@5-7;", "text "), Checks.seen(fresh));
        Checks.due("P4 no script", q.scriptLength(), 0);
        Checks.due("P4 no snapshot 0", q.restoreSnapshot(0), false);
        Checks.due("P4 no snapshot 1", q.restoreSnapshot(1), false);
        // the extension limit is 6 again
        q.issue(0, 0, 0);
        q.breakDown(0);
        q.advance(6);
        Checks.due("P4 usual extension", q.ticketExtension(0), 6);
        Checks.due("P4 usual extension", q.ticketState(0), VirtualQueue.ACTIVE);
        q.advance(1);
        Checks.due("P4 usual extension", q.ticketState(0), VirtualQueue.OPEN);
        VirtualQueue last = Checks.park("extension 5;ride 10 50 1 0 143;tier 1 9 0 0;extension 1;party 0 5;");
        last.issue(0, 0, 0);
        last.breakDown(0);
        last.advance(2);
        Checks.due("P4 the last extension counts", last.ticketState(0), VirtualQueue.OPEN);
    }

    private static void scriptIs(String text, int entries) {
        VirtualQueue q = new VirtualQueue();
        Checks.due("P5 " + text, Checks.loadScript(q, text), entries);
        Checks.due("P60 " + text, q.scriptLength(), entries);
        Checks.due("P6 " + text, q.errorCode(), 0);
        Checks.due("P7 " + text, q.errorPosition(), NONE);
        Checks.due("P5 empties the buffer", q.truncateInput(1), NONE);
    }

    private static void scripts() {
        scriptIs("", 0);
        scriptIs("\n", 0);
        scriptIs("at 0 issue 0 0 0;at 0 issue 49 7 143;at 143 redeem 149;at 143 cancel 0;", 4);
        scriptIs("at 0 redeem 0;at 1 cancel 149;at 2 wait 0 0;at 2 wait 49 7;", 4);
        scriptIs("at 3 standby 0 1;at 4 standby 7 12;at 5 break 0;at 6 break 7;at 7 repair 0;at 8 repair 7;", 6);
        scriptIs("at3issue1 2 3;\nat\n00003\nbreak\n5\n;", 2);
        scriptIs("at 5 break 0;".repeat(40), 40);
        VirtualQueue q = new VirtualQueue();
        Checks.loadScript(q, "at 5 break 0;at 6 break 0;");
        Checks.due("P5 replaces", Checks.loadScript(q, "at 1 break 0;"), 1);
        Checks.due("P5 replaces", q.scriptLength(), 1);
        Checks.due("P5 replaces by none", q.loadScript(), 0);
        Checks.due("P5 replaces by none", q.scriptLength(), 0);
    }

    private static void scriptFails(String text, int code, int position) {
        VirtualQueue q = new VirtualQueue();
        Checks.loadScript(q, "at 5 break 0;");
        Checks.due("P5 " + text, Checks.loadScript(q, text), TEXT_ERROR);
        Checks.due("P6 " + text, q.errorCode(), code);
        Checks.due("P7 " + text, q.errorPosition(), position);
        Checks.due("P5 the script stays", q.scriptLength(), 1);
        Checks.due("P5 empties the buffer on an error", q.truncateInput(1), NONE);
    }

    private static void scriptErrors() {
        scriptFails("ride 1 1 1 1 1;", 1, 0);
        scriptFails("at", 1, 2);
        scriptFails("at 5", 1, 4);
        scriptFails("at 5 ", 1, 5);
        scriptFails("at x break 0;", 1, 3);
        scriptFails("at 5 ;", 1, 5);
        scriptFails("at 5 5;", 1, 5);
        scriptFails("at 5 breaks 0;", 1, 5);
        scriptFails("at 5 at;", 1, 5);
        scriptFails("at 5 advance 1;", 1, 5);
        scriptFails("at 5 break;", 1, 10);
        scriptFails("at 5 break 0", 1, 12);
        scriptFails("at 5 break 0 0;", 1, 13);
        scriptFails("at 5 issue 0 0;", 1, 14);
        scriptFails("at 5 redeem 000000;", 1, 12);
        scriptFails("at 5 break 0;;", 1, 13);
        scriptFails("at 5 break 0;at 5 break 0;?", 1, 26);
        scriptFails("at 144 break 0;", 2, 3);
        scriptFails("at 144 nothing", 2, 3);
        scriptFails("at 5 break 0;at 4 break 0;", 2, 16);
        scriptFails("at 5 issue 50 0 0;", 2, 11);
        scriptFails("at 5 issue 49 8 0;", 2, 14);
        scriptFails("at 5 issue 49 7 144;", 2, 16);
        scriptFails("at 5 redeem 150;", 2, 12);
        scriptFails("at 5 cancel 150;", 2, 12);
        scriptFails("at 5 wait 50 0;", 2, 10);
        scriptFails("at 5 wait 0 8;", 2, 12);
        scriptFails("at 5 standby 8 1;", 2, 13);
        scriptFails("at 5 standby 7 0;", 2, 15);
        scriptFails("at 5 standby 7 13;", 2, 15);
        scriptFails("at 5 break 8;", 2, 11);
        scriptFails("at 5 repair 8;", 2, 12);
        scriptFails("at 5 break 0;".repeat(40) + "at x", 3, 520);
        scriptFails("at 5 break 0;".repeat(40) + "a", 1, 520);
    }
}
