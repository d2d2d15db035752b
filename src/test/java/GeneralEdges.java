import java.util.ArrayList;
import java.util.List;

/** What holds for all calls: EXCEPTIONS, CONSTANTS. */
final class GeneralEdges extends Edges {
    private record Call(String name, Ask ask) { }

    static void all() {
        orderOfExceptions();
        refusedCalls();
        constants();
        noEdge("PROMISES", "The constructor and the methods follow, a promise each: the signature, then what it does.",
                "the signatures are compared by FaceTest");
    }

    private static void orderOfExceptions() {
        says("EXCEPTIONS", "Exceptions are checked in the order in which a method lists them.");
        // each with a wrong index and a wrong argument behind it; and, where there are two indexes, one wrong
        for (int wrong : new int[] {-1, 60, MAX, MIN}) {
            for (int bad : new int[] {-1, 200, MAX, MIN}) {
                noIndex("addParty()", Park.BUSY, q -> q.addParty(wrong, bad));
                noIndex("planned()", Park.BUSY, q -> q.planned(wrong, bad));
                noIndex("remaining()", Park.BUSY, q -> q.remaining(wrong, bad));
                noIndex("issue(), the party", Park.BUSY, q -> q.issue(wrong, 0, bad));
                noIndex("issue(), the ride", Park.BUSY, q -> q.issue(0, wrong, bad));
                noIndex("nextWindow(), the party", Park.BUSY, q -> q.nextWindow(wrong, 0, bad));
                noIndex("nextWindow(), the ride", Park.BUSY, q -> q.nextWindow(0, wrong, bad));
                noIndex("issueJoint(), both parties", Park.BUSY, q -> q.issueJoint(wrong, wrong, 0, bad));
                noIndex("issueJoint(), the other party", Park.BUSY, q -> q.issueJoint(0, wrong, 0, bad));
                noIndex("issueJoint(), the ride", Park.BUSY, q -> q.issueJoint(0, 0, wrong, bad));
                noIndex("moveTicket()", Park.BUSY, q -> q.moveTicket(wrong, bad));
                noIndex("exchange(), the ticket", Park.BUSY, q -> q.exchange(wrong, 0, bad));
                noIndex("exchange(), the ride", Park.BUSY, q -> q.exchange(0, wrong, bad));
                noIndex("countTickets()", Park.BUSY, q -> q.countTickets(wrong, bad));
                noIndex("joinStandby()", Park.BUSY, q -> q.joinStandby(wrong, bad));
                noIndex("setShare()", Park.BUSY, q -> q.setShare(wrong, bad));
                noIndex("forecastStandby()", Park.BUSY, q -> q.forecastStandby(wrong, bad));
                noIndex("expectedReturns()", Park.BUSY, q -> q.expectedReturns(wrong, bad));
                noIndex("bestFinish()", Park.BUSY, q -> q.bestFinish(wrong, bad));
                noIndex("bestOrder()", Park.BUSY, q -> q.bestOrder(wrong, bad, bad));
            }
            noIndex("averageWait()", Park.SMALL, q -> q.averageWait(wrong));
            noIndex("expiredPart()", Park.SMALL, q -> q.expiredPart(wrong));
            noIndex("usage()", Park.SMALL, q -> q.usage(wrong));
        }
    }

    /** Calls with arguments of all kinds; whichever of them is refused must change nothing. */
    private static List<Call> calls() {
        List<Call> all = new ArrayList<>();
        int[] some = {-1, 0, 1, 3, 4, 7, 49, 50, 149, 150};
        for (int a : some) {
            all.add(new Call("partySize", q -> q.partySize(a)));
            all.add(new Call("partyTier", q -> q.partyTier(a)));
            all.add(new Call("cancel", q -> q.cancel(a)));
            all.add(new Call("redeem", q -> q.redeem(a)));
            all.add(new Call("breakDown", q -> q.breakDown(a)));
            all.add(new Call("repair", q -> q.repair(a)));
            all.add(new Call("formatItinerary", q -> q.formatItinerary(a)));
            all.add(new Call("saveSnapshot", q -> q.saveSnapshot(a)));
            all.add(new Call("restoreSnapshot", q -> q.restoreSnapshot(a)));
            all.add(new Call("setExtensionLimit", q -> q.setExtensionLimit(a)));
            all.add(new Call("advance", q -> q.advance(a)));
            all.add(new Call("runScript", q -> q.runScript(a)));
            all.add(new Call("truncateInput", q -> q.truncateInput(a)));
            all.add(new Call("appendInput", q -> q.appendInput(a, a, a, a, a)));
            for (int b : new int[] {-1, 0, 2, 3, 7, 13, 101, 143, 144}) {
                all.add(new Call("addParty", q -> q.addParty(a, b)));
                all.add(new Call("moveTicket", q -> q.moveTicket(a, b)));
                all.add(new Call("redeemOpen", q -> q.redeemOpen(a, b)));
                all.add(new Call("joinWaitlist", q -> q.joinWaitlist(a, b)));
                all.add(new Call("leaveWaitlist", q -> q.leaveWaitlist(a, b)));
                all.add(new Call("joinStandby", q -> q.joinStandby(a, b)));
                all.add(new Call("setShare", q -> q.setShare(a, b)));
                all.add(new Call("issue", q -> q.issue(a, b, b)));
                all.add(new Call("exchange", q -> q.exchange(a, b, b)));
                all.add(new Call("issueJoint", q -> q.issueJoint(a, 0, b, b)));
                all.add(new Call("issueJoint", q -> q.issueJoint(1, a, b, 0)));
            }
        }
        return all;
    }

    private static void refusedCalls() {
        says("EXCEPTIONS", "A call that throws an exception, or returns false, NONE or an error code, changes nothing,");
        for (Park park : Park.values()) {
            for (Call call : calls()) {
                VirtualQueue q = park.make();
                Object got = answer(q, call.ask());
                boolean refused = got instanceof String || got.equals(false) || got instanceof Integer && (Integer) got < 0;
                if (refused) {
                    unchanged(call.name() + "() that answers " + got + " (" + park + ")", Probe.trace(q), park.trace());
                }
            }
        }
        says("EXCEPTIONS", "except where its description says so.");
        VirtualQueue q = Park.BUSY.make();
        due("loadPark() with an error", q.loadPark() == 1 && Checks.loadPark(q, "!") == TEXT_ERROR, true);
        due("changes the buffer and the error", Probe.bufferLength(q) + " " + q.errorCode() + " " + q.errorPosition(), "0 1 0");
        due("loadScript() with an error", Checks.loadScript(q, "at 144") == TEXT_ERROR, true);
        due("changes the buffer and the error", Probe.bufferLength(q) + " " + q.errorCode() + " " + q.errorPosition(), "0 2 3");
    }

    private static void constants() {
        noEdge("CONSTANTS", "The constants:", "they follow");
        VirtualQueue busy = Park.BUSY.make();
        says("CONSTANTS", "`NONE = -1`: There is none.");
        due("value", VirtualQueue.NONE, -1);
        due("no such index", busy.itinerary(0, 0), -1);
        says("CONSTANTS", "`NOT_ALLOWED = -2`: Error code: the limit or the pause of the tier does not allow it,");
        due("value", VirtualQueue.NOT_ALLOWED, -2);
        VirtualQueue limit = Checks.park("ride 9 100 1 0 9;ride 9 100 1 0 9;tier 1 9 0 0;tier 5 9 1 0;party 0 1;party 1 1;");
        limit.issue(0, 0, 0);
        limit.issue(1, 0, 0);
        due("the limit", limit.issue(0, 1, 0), -2);
        due("the pause", limit.issue(1, 1, 0), -2);
        says("CONSTANTS", "or the capacity does not.");
        due("setShare()", limit.setShare(0, 0), -2);
        says("CONSTANTS", "`DUPLICATE = -3`: Error code: the party has that already.");
        due("value", VirtualQueue.DUPLICATE, -3);
        due("a ticket", busy.issue(2, 0, 0), -3);
        due("a place on the waitlist", busy.joinWaitlist(0, 0), -3);
        says("CONSTANTS", "`NO_WINDOW = -4`: Error code: there is no window.");
        due("value", VirtualQueue.NO_WINDOW, -4);
        due("behind the last slot", busy.issue(0, 0, 100), -4);
        says("CONSTANTS", "`RIDE_DOWN = -5`: Error code: the ride is down.");
        due("value", VirtualQueue.RIDE_DOWN, -5);
        due("down", busy.issue(0, 3, 0), -5);
        says("CONSTANTS", "`FULL = -6`: Error code: there is no room for more.");
        due("value", VirtualQueue.FULL, -6);
        due("parties", Park.FULL.make().addParty(0, 1), -6);
        due("tickets", Park.FULL.make().issue(0, 7, 0), -6);
        due("groups", Park.FULL.make().joinStandby(7, 1), -6);
        says("CONSTANTS", "`TEXT_ERROR = -7`: Error code: the text has an error.");
        due("value", VirtualQueue.TEXT_ERROR, -7);
        due("a park", Park.FULL.make().loadPark(), -7);
        due("a script", Park.FULL.make().loadScript(), -7);
        says("CONSTANTS", "`ACTIVE = 0`: State of a ticket: it can be redeemed in its window.");
        due("value", VirtualQueue.ACTIVE, 0);
        due("a ticket in its window", busy.ticketState(Park.NOW) + " " + busy.redeem(Park.NOW), "0 true");
        says("CONSTANTS", "`USED = 1`: State of a ticket: it was redeemed.");
        due("value", VirtualQueue.USED, 1);
        due("then", busy.ticketState(Park.NOW), 1);
        says("CONSTANTS", "`EXPIRED = 2`: State of a ticket: its window has passed.");
        due("value", VirtualQueue.EXPIRED, 2);
        due("a ticket behind its window", busy.ticketState(Park.EXPIRED), 2);
        says("CONSTANTS", "`CANCELLED = 3`: State of a ticket: it was cancelled.");
        due("value", VirtualQueue.CANCELLED, 3);
        due("a ticket", busy.cancel(Park.LATER) + " " + busy.ticketState(Park.LATER), "0 3");
        says("CONSTANTS", "`OPEN = 4`: State of a ticket: it can be redeemed for any ride at any time.");
        due("value", VirtualQueue.OPEN, 4);
        for (int ride = 0; ride < 3; ride++) {
            for (int slot : new int[] {5, 6, 98, 99}) {
                VirtualQueue q = Park.BUSY.make();
                q.advance(slot - 4);
                due("ride " + ride + " in slot " + slot, q.ticketState(Park.OPEN) + " " + q.redeemOpen(Park.OPEN, ride), "4 true");
            }
        }
    }
}
