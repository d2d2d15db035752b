/** Tells two objects apart by their answers alone: all that can be asked of one, and all that comes of it later. */
final class Probe {
    private Probe() {
    }

    /** Everything; the object is used up by it. */
    static String trace(VirtualQueue q) {
        StringBuilder all = new StringBuilder();
        all.append("buffer ").append(bufferLength(q)).append('\n');
        all.append("error ").append(q.errorCode()).append(' ').append(q.errorPosition()).append('\n');
        all.append(world(q));
        all.append("the buffer's text ").append(q.loadPark()).append(' ').append(q.errorCode()).append(' ');
        all.append(q.errorPosition()).append(' ').append(q.rideCount()).append(' ').append(q.partyCount()).append('\n');
        return all.toString();
    }

    static int bufferLength(VirtualQueue q) {
        int length = 1500;
        while (length > 0 && q.truncateInput(length) == VirtualQueue.NONE) {
            length--;
        }
        return length;
    }

    /** Everything but the buffer and the error; the object is used up by it. */
    static String world(VirtualQueue q) {
        StringBuilder all = new StringBuilder(day(q));
        all.append("text ").append(Checks.formatted(q)).append('\n');
        while (q.now() < 144) {
            all.append("ran ").append(q.runScript(1)).append(' ').append(slot(q));
        }
        for (int slot = 0; slot < 2; slot++) {
            all.append("snapshot ").append(slot).append(' ').append(q.restoreSnapshot(slot)).append('\n').append(day(q));
        }
        return all.toString();
    }

    /** What can be asked now of what a snapshot holds. */
    static String day(VirtualQueue q) {
        StringBuilder all = new StringBuilder(slot(q));
        all.append("tiers ").append(q.tierCount()).append('\n');
        for (int p = 0; p < q.partyCount(); p++) {
            all.append("party ").append(p).append(' ').append(q.partyTier(p)).append(' ').append(q.partySize(p));
            for (int r = 0; r < q.rideCount(); r++) {
                // The pauses show themselves here, and the lengths and horizons.
                all.append(' ').append(q.nextWindow(p, r, 0)).append('/').append(q.bestFinish(p, 1 << r));
            }
            all.append('\n');
        }
        for (int r = 0; r < q.rideCount(); r++) {
            all.append("ride ").append(r).append(' ').append(q.servedSet(r)).append(' ').append(q.forecastStandby(r, 1));
            for (int s = 0; s < 144; s++) {
                all.append(' ').append(q.planned(r, s)).append('/').append(q.remaining(r, s));
            }
            all.append('\n');
        }
        return all.toString();
    }

    /** What changes from slot to slot. */
    private static String slot(VirtualQueue q) {
        StringBuilder all = new StringBuilder();
        all.append("now ").append(q.now()).append(" script ").append(q.scriptLength());
        for (int t = 0; t < q.ticketCount(); t++) {
            all.append(" t").append(t).append(' ').append(Checks.ticket(q, t));
        }
        for (int r = 0; r < q.rideCount(); r++) {
            int ride = r;
            all.append(" r").append(r).append(q.isDown(r) ? " down " : " up ").append(q.mergePersons(r)).append(' ');
            all.append(q.standbyPersons(r)).append(' ').append(q.boarded(r, true)).append(' ').append(q.boarded(r, false));
            all.append(' ').append(q.longestWait(r)).append(' ').append(Checks.result(() -> q.averageWait(ride)));
            all.append(" waitlist ").append(Checks.waitlist(q, r));
        }
        return all.append('\n').toString();
    }
}
