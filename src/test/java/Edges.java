/**
 * What the tests of edges share. Each test names the place of a sentence in the document (P1 to P64, TIME, PARK ..) and
 * quotes it; what is checked from there on is of this sentence.
 */
abstract class Edges {
    static final int NONE = VirtualQueue.NONE;
    static final int NOT_ALLOWED = VirtualQueue.NOT_ALLOWED;
    static final int DUPLICATE = VirtualQueue.DUPLICATE;
    static final int NO_WINDOW = VirtualQueue.NO_WINDOW;
    static final int RIDE_DOWN = VirtualQueue.RIDE_DOWN;
    static final int FULL = VirtualQueue.FULL;
    static final int TEXT_ERROR = VirtualQueue.TEXT_ERROR;
    static final int ACTIVE = VirtualQueue.ACTIVE;
    static final int USED = VirtualQueue.USED;
    static final int EXPIRED = VirtualQueue.EXPIRED;
    static final int CANCELLED = VirtualQueue.CANCELLED;
    static final int OPEN = VirtualQueue.OPEN;
    static final int MAX = Integer.MAX_VALUE;
    static final int MIN = Integer.MIN_VALUE;

    private static final String NO_INDEX = "IndexOutOfBoundsException";
    private static final String NO_ARGUMENT = "IllegalArgumentException";
    static final String NO_QUOTIENT = "ArithmeticException";

    /** A call on an object. */
    interface Ask {
        Object of(VirtualQueue q);
    }

    /** A call on an object with one argument that is varied. */
    interface AskWith {
        Object of(VirtualQueue q, int argument);
    }

    interface Maker {
        VirtualQueue make();
    }

    private static final Document DOCUMENT = Document.read();
    private static String place = "";
    private static String sentence = "";

    /** Begins the tests of a sentence, or of a part of one. */
    static void says(String newPlace, String quote) {
        place = newPlace;
        sentence = quote;
        if (DOCUMENT != null) {
            due("the document says so", DOCUMENT.quote(place, quote), true);
        }
    }

    /** A sentence that names no edge (or one that no call can show, as the reason says). */
    static void noEdge(String newPlace, String quote, String reason) {
        says(newPlace, quote);
        due("there is a reason", reason.isEmpty(), false);
    }

    static void allIsQuoted() {
        if (DOCUMENT != null) {
            for (String rest : DOCUMENT.unquoted()) {
                Checks.due("tests of " + rest, "none", "some");
            }
        }
    }

    static void due(String what, Object got, Object want) {
        Checks.due(place + " \"" + sentence + "\": " + what, got, want);
    }

    /** The answer, or the name of the exception; an exception of the machine itself is called so. */
    static Object answer(VirtualQueue q, Ask ask) {
        try {
            return ask.of(q);
        } catch (RuntimeException e) {
            boolean divided = e instanceof ArithmeticException && "/ by zero".equals(e.getMessage());
            return (divided ? "the machine's " : "") + e.getClass().getSimpleName();
        }
    }

    /** A call with this answer, which changes nothing. */
    static void stays(String what, Park park, Ask ask, Object want) {
        VirtualQueue q = park.make();
        due(what + " (" + park + ")", answer(q, ask), want);
        unchanged(what + " (" + park + ")", Probe.trace(q), park.trace());
    }

    static void stays(String what, Maker maker, Ask ask, Object want) {
        VirtualQueue q = maker.make();
        due(what, answer(q, ask), want);
        unchanged(what, Probe.trace(q), Probe.trace(maker.make()));
    }

    /** Two traces are the same; if not, the first lines that differ are told. */
    static void unchanged(String what, String got, String want) {
        String[] gotLines = got.split("\n");
        String[] wantLines = want.split("\n");
        int k = 0;
        while (k < gotLines.length - 1 && k < wantLines.length - 1 && gotLines[k].equals(wantLines[k])) {
            k++;
        }
        due(what + " changes nothing", got.equals(want) ? "" : gotLines[k], got.equals(want) ? "" : wantLines[k]);
    }

    static void noIndex(String what, Park park, Ask ask) {
        stays(what, park, ask, NO_INDEX);
    }

    static void noArgument(String what, Park park, Ask ask) {
        stays(what, park, ask, NO_ARGUMENT);
    }

    static void noArgument(String what, Maker maker, Ask ask) {
        stays(what, maker, ask, NO_ARGUMENT);
    }

    private static void isThere(String what, Park park, int index, AskWith ask) {
        Object got = answer(park.make(), q -> ask.of(q, index));
        due(what + " " + index + " (" + park + ") is there", got.equals(NO_INDEX), false);
    }

    /** Behind the last ride, before the first one, far off, and with no ride at all. */
    static void noSuchRide(AskWith ask) {
        noSuch("ride", Park.BUSY_RIDES, ask);
        noIndex("ride 8", Park.FULL, q -> ask.of(q, 8));
        noIndex("ride 1 of an earlier park", Park.SHRUNK, q -> ask.of(q, 1));
        noIndex("ride 7 of an earlier park", Park.SHRUNK, q -> ask.of(q, 7));
        isThere("ride", Park.FULL, 7, ask);
    }

    static void noSuchParty(AskWith ask) {
        noSuch("party", Park.BUSY_PARTIES, ask);
        noIndex("party 50", Park.FULL, q -> ask.of(q, 50));
        noIndex("party 1 of an earlier park", Park.SHRUNK, q -> ask.of(q, 1));
        noIndex("party 49 of an earlier park", Park.SHRUNK, q -> ask.of(q, 49));
        isThere("party", Park.FULL, 49, ask);
    }

    static void noSuchTicket(AskWith ask) {
        noSuch("ticket", Park.BUSY_TICKETS, ask);
        noIndex("ticket 150", Park.FULL, q -> ask.of(q, 150));
        noIndex("ticket 0 of an earlier park", Park.SHRUNK, q -> ask.of(q, 0));
        noIndex("ticket 149 of an earlier park", Park.SHRUNK, q -> ask.of(q, 149));
        isThere("ticket", Park.FULL, 149, ask);
        noIndex("no ticket at all", Park.SMALL, q -> ask.of(q, 0));
    }

    private static void noSuch(String what, int count, AskWith ask) {
        noIndex("no " + what + " at all", Park.NEW, q -> ask.of(q, 0));
        for (int index : new int[] {-1, count, MAX, MIN}) {
            noIndex(what + " " + index, Park.BUSY, q -> ask.of(q, index));
        }
        noIndex(what + " " + count, Park.OVER, q -> ask.of(q, count));
        isThere(what, Park.BUSY, 0, ask);
        isThere(what, Park.BUSY, count - 1, ask);
    }

    /** An argument that must lie from least to most: both are good, and nothing beyond them. */
    static void ranges(String what, int least, int most, AskWith ask) {
        for (int value : new int[] {least - 1, most + 1, MAX, MIN}) {
            noArgument(what + " " + value, Park.BUSY, q -> ask.of(q, value));
        }
        for (int value : new int[] {least, most}) {
            Object got = answer(Park.BUSY.make(), q -> ask.of(q, value));
            due(what + " " + value + " is good", got.equals(NO_ARGUMENT), false);
        }
    }
}
