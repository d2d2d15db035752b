/** What the tests share: texts for the input buffer, checks of answers and exceptions, and all that can be seen. */
final class Checks {
    private static int wrong = 0;

    private Checks() {
    }

    interface Call {
        Object answer();
    }

    static void due(String what, Object got, Object want) {
        if (!got.equals(want)) {
            wrong++;
            System.out.println(what + ": answered " + got + ", due is " + want);
        }
    }

    /** The call's answer, or the name of what it throws. */
    static Object result(Call call) {
        try {
            return call.answer();
        } catch (RuntimeException e) {
            return e.getClass().getSimpleName();
        }
    }

    /** Checks a call that has no effect: its answer (or exception), and that all that can be seen stays. */
    static void refused(String what, VirtualQueue q, Call call, Object want) {
        String before = seen(q);
        due(what, result(call), want);
        due(what + " changes nothing", seen(q), before);
    }

    static void noIndex(String what, VirtualQueue q, Call call) {
        refused(what, q, call, "IndexOutOfBoundsException");
    }

    static void noArgument(String what, VirtualQueue q, Call call) {
        refused(what, q, call, "IllegalArgumentException");
    }

    static void end() {
        if (wrong != 0) {
            System.out.println(wrong + " answers are not as due");
            System.exit(1);
        }
    }

    /** Puts a text into the (empty) input buffer. */
    static void put(VirtualQueue q, String text) {
        putBytes(q, text.getBytes(java.nio.charset.StandardCharsets.ISO_8859_1));
    }

    static void putBytes(VirtualQueue q, byte[] text) {
        for (int at = 0; at < text.length; at += 20) {
            int[] words = new int[5];
            for (int k = 0; k < 20; k++) {
                int sign = at + k < text.length ? text[at + k] & 255 : 0;
                words[k / 4] = words[k / 4] << 8 | sign;
            }
            q.appendInput(words[0], words[1], words[2], words[3], words[4]);
        }
        q.truncateInput(text.length);
    }

    static int loadPark(VirtualQueue q, String text) {
        put(q, text);
        return q.loadPark();
    }

    static int loadScript(VirtualQueue q, String text) {
        put(q, text);
        return q.loadScript();
    }

    static VirtualQueue park(String text) {
        VirtualQueue q = new VirtualQueue();
        if (loadPark(q, text) < 0) {
            due("the park of a test: " + text, q.errorPosition(), "no error");
        }
        return q;
    }

    /** The text that was formatted last. */
    static String formatted(VirtualQueue q) {
        StringBuilder text = new StringBuilder();
        for (int k = 0; q.formattedByte(k) != VirtualQueue.NONE; k++) {
            text.append((char) q.formattedByte(k));
        }
        return text.toString();
    }

    static String waitlist(VirtualQueue q, int ride) {
        StringBuilder all = new StringBuilder();
        for (int k = 0; q.waitlistAt(ride, k) != VirtualQueue.NONE; k++) {
            all.append(q.waitlistAt(ride, k)).append(' ');
        }
        return all.toString();
    }

    /** All that can be seen without changing anything (but the length of the input buffer). */
    static String seen(VirtualQueue q) {
        StringBuilder all = new StringBuilder();
        all.append("now ").append(q.now()).append(" script ").append(q.scriptLength());
        all.append(" tiers ").append(q.tierCount());
        all.append(" error ").append(q.errorCode()).append('/').append(q.errorPosition());
        all.append(" text ").append(formatted(q));
        for (int p = 0; p < q.partyCount(); p++) {
            all.append("\nparty ").append(p).append(' ').append(q.partyTier(p)).append(' ').append(q.partySize(p));
        }
        for (int t = 0; t < q.ticketCount(); t++) {
            all.append("\nticket ").append(t).append(' ').append(ticket(q, t));
        }
        for (int r = 0; r < q.rideCount(); r++) {
            all.append("\nride ").append(r).append(' ').append(ride(q, r));
        }
        return all.toString();
    }

    static String ticket(VirtualQueue q, int t) {
        return q.ticketParty(t) + " " + q.ticketRide(t) + " " + q.ticketStart(t) + "-" + q.ticketEnd(t) + " state "
                + q.ticketState(t) + " extension " + q.ticketExtension(t);
    }

    private static String ride(VirtualQueue q, int r) {
        StringBuilder all = new StringBuilder();
        all.append(q.isDown(r)).append(' ').append(q.boarded(r, true)).append(' ').append(q.boarded(r, false));
        all.append(' ').append(q.longestWait(r)).append(' ').append(result(() -> q.averageWait(r)));
        all.append(' ').append(q.mergePersons(r)).append(' ').append(q.standbyPersons(r));
        all.append(" waitlist");
        for (int k = 0; q.waitlistAt(r, k) != VirtualQueue.NONE; k++) {
            all.append(' ').append(q.waitlistAt(r, k));
        }
        all.append(" forecast ").append(q.forecastStandby(r, 1)).append(" slots");
        for (int s = 0; s < 144; s++) {
            all.append(' ').append(q.planned(r, s)).append('/').append(q.remaining(r, s));
        }
        return all.toString();
    }
}
