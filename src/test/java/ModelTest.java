import java.util.ArrayList;
import java.util.List;
import java.util.Random;

/** Long runs of calls, drawn with fixed seeds, whose answers are compared with those of Model (all promises). */
public final class ModelTest {
    private final Random random;
    private final VirtualQueue q = new VirtualQueue();
    private final Model m = new Model();
    private final List<String> log = new ArrayList<>();
    private boolean agrees = true;

    private ModelTest(long seed) {
        random = new Random(seed * 0x9E3779B97F4A7C15L);
    }

    public static void main(String[] args) {
        int runs = args.length > 0 ? Integer.parseInt(args[0]) : 1500;
        for (int seed = 1; seed <= runs; seed++) {
            ModelTest test = new ModelTest(seed);
            if (!test.run(seed % 4)) {
                System.out.println("seed " + seed + " differs; its last calls:");
                int size = test.log.size();
                for (String line : test.log.subList(Math.max(0, size - 40), size)) {
                    System.out.println("  " + line);
                }
                System.exit(1);
            }
        }
    }

    /** Runs are drawn in four styles, so that some fill the tickets, some the waitlists and some the lines. */
    private static final int ANY = 0;
    private static final int TICKETS = 1;
    private static final int WAITLISTS = 2;
    private static final int LINES = 3;

    private boolean run(int style) {
        load(park(style), true);
        for (int k = 0; k < 450 && agrees; k++) {
            if (random.nextInt(style == TICKETS ? 8 : 3) == 0) {
                query();
            } else {
                act(style);
            }
        }
        return agrees;
    }

    private void same(String call, Checks.Call real, Checks.Call model) {
        Object got = Checks.result(real);
        Object want = Checks.result(model);
        log.add(call + " = " + got);
        if (!got.equals(want)) {
            log.add("  but the model says " + want);
            agrees = false;
        }
    }

    private int upTo(int most) {
        return random.nextInt(most + 1);
    }

    /** An index that is mostly good. */
    private int index(int count) {
        return random.nextInt(25) == 0 || count == 0 ? random.nextInt(60) - 4 + count * random.nextInt(2) : random.nextInt(count);
    }

    private int ride() {
        return index(m.w.rides.size());
    }

    private int party() {
        return index(m.w.parties.size());
    }

    private int ticket() {
        int count = m.w.tickets.size();
        return random.nextBoolean() && count > 6 ? count - 1 - random.nextInt(6) : index(count);
    }

    private int slot() {
        int kind = random.nextInt(20);
        return kind == 0 ? random.nextInt(300) - 80 : kind < 8 ? upTo(143) : Math.min(143, m.w.now + upTo(12));
    }

    private int size() {
        return random.nextInt(20) == 0 ? random.nextInt(20) - 3 : 1 + random.nextInt(12);
    }

    private int oddNumber() {
        return switch (random.nextInt(5)) {
            case 0 -> Integer.MAX_VALUE;
            case 1 -> Integer.MIN_VALUE;
            case 2 -> random.nextInt();
            default -> random.nextInt(400) - 200;
        };
    }

    // ---- texts ----

    private String park(int style) {
        StringBuilder text = new StringBuilder();
        int rides = style == WAITLISTS || style == LINES ? 1 + random.nextInt(2) : 1 + random.nextInt(8);
        for (int k = 0; k < rides; k++) {
            int first = style != ANY ? upTo(3) : random.nextInt(3) == 0 ? upTo(143) : upTo(15);
            int last = style == TICKETS || style == LINES ? 143 : first + upTo(143 - first);
            int length = style == LINES ? 24 : 1 + random.nextInt(style == ANY && random.nextBoolean() ? 24 : 3);
            int most = style == TICKETS ? 200 : style == ANY ? 60 : 20;
            text.append("ride ").append(1 + random.nextInt(most)).append(' ').append(style == TICKETS ? 100 : upTo(100));
            text.append(' ').append(length).append(' ').append(first).append(' ').append(last).append(";\n");
        }
        int tiers = 1 + random.nextInt(4);
        for (int k = 0; k < tiers; k++) {
            text.append("tier ").append(style == TICKETS ? 5 : 1 + random.nextInt(5)).append(' ');
            text.append(1 + random.nextInt(style == WAITLISTS ? 6 : 144)).append(' ');
            text.append(style == TICKETS || random.nextBoolean() ? 0 : upTo(10)).append(' ').append(upTo(3)).append(";");
        }
        int parties = style == TICKETS ? 50 : style == LINES ? 30 : 1 + random.nextInt(16);
        for (int k = 0; k < parties; k++) {
            int size = style == LINES ? 4 : 12;
            text.append("party ").append(random.nextInt(tiers)).append(' ').append(1 + random.nextInt(size)).append("; ");
        }
        if (random.nextBoolean()) {
            text.append("extension ").append(upTo(random.nextBoolean() ? 4 : 48)).append(';');
        }
        return text.toString();
    }

    private String script() {
        StringBuilder text = new StringBuilder();
        int slot = Math.max(0, Math.min(143, m.w.now - 2));
        int entries = upTo(random.nextInt(8) == 0 ? 42 : 12);
        for (int k = 0; k < entries; k++) {
            slot = Math.min(143, slot + upTo(3));
            text.append("at ").append(slot).append(' ');
            int ride = random.nextInt(8);
            switch (random.nextInt(7)) {
                case 0 -> text.append("issue ").append(random.nextInt(20)).append(' ').append(ride).append(' ').append(upTo(143));
                case 1 -> text.append("redeem ").append(random.nextInt(40));
                case 2 -> text.append("cancel ").append(random.nextInt(40));
                case 3 -> text.append("wait ").append(random.nextInt(20)).append(' ').append(ride);
                case 4 -> text.append("standby ").append(ride).append(' ').append(1 + random.nextInt(12));
                case 5 -> text.append("break ").append(ride);
                default -> text.append("repair ").append(ride);
            }
            text.append(random.nextBoolean() ? ";" : " ;\n");
        }
        return text.toString();
    }

    /** Changes a few places of a text, so that most errors come up. */
    private String spoilt(String text) {
        StringBuilder b = new StringBuilder(text);
        String[] pieces = {"", " ", ";", "9", "0", "ride", "at", "x", "\n", "123456", "12345", "abcdefghijk", "\u00e9", "-", "A", "\t"};
        int changes = 1 + random.nextInt(2);
        for (int k = 0; k < changes && b.length() > 0; k++) {
            int at = random.nextInt(b.length());
            String piece = pieces[random.nextInt(pieces.length)];
            if (random.nextInt(6) == 0) {
                b.setLength(at);
            } else if (random.nextBoolean()) {
                b.insert(at, piece);
            } else {
                b.replace(at, at + 1, piece);
            }
        }
        return b.toString();
    }

    private void load(String text, boolean asPark) {
        log.add("text: " + text);
        append("truncateInput", 0);
        for (int at = 0; at < text.length(); at += 20) {
            int[] words = new int[5];
            for (int k = 0; k < 20; k++) {
                words[k / 4] = words[k / 4] << 8 | (at + k < text.length() ? text.charAt(at + k) : 32);
            }
            same("appendInput", () -> q.appendInput(words[0], words[1], words[2], words[3], words[4]),
                    () -> m.appendInput(words));
        }
        append("truncateInput", text.length());
        if (asPark) {
            same("loadPark()", q::loadPark, m::loadPark);
        } else {
            same("loadScript()", q::loadScript, m::loadScript);
        }
        same("errorCode()", q::errorCode, () -> m.errorCode);
        same("errorPosition()", q::errorPosition, () -> m.errorPosition);
        append("truncateInput", 1);
    }

    private void append(String call, int length) {
        same(call + "(" + length + ")", () -> q.truncateInput(length), () -> m.truncateInput(length));
    }

    // ---- calls that change something ----

    /** What an act is mostly in a style; the numbers are those of change(). */
    private int draw(int style) {
        if (random.nextInt(style == TICKETS ? 8 : 3) == 0) {
            return random.nextInt(8) == 0 ? upTo(1) : 2 + random.nextInt(40);
        }
        return switch (style) {
            case TICKETS -> random.nextInt(10) == 0 ? 14 : random.nextInt(3) == 0 ? 7 : 40;
            case WAITLISTS -> switch (random.nextInt(8)) {
                case 0 -> 2 + random.nextInt(40);
                case 1 -> 25;
                case 2 -> 40;
                default -> 21;
            };
            case LINES -> random.nextInt(3) == 0 ? 26 : random.nextInt(3) == 0 ? 15 : 40;
            default -> 2 + random.nextInt(40);
        };
    }

    private void act(int style) {
        change(style, draw(style));
    }

    /** A ticket in a state, if there is one. */
    private int ticketIn(Model.State state) {
        for (int k = 0; k < 20; k++) {
            int t = ticket();
            if (t >= 0 && t < m.w.tickets.size() && m.w.tickets.get(t).state == state) {
                return t;
            }
        }
        return ticket();
    }

    private void change(int style, int kind) {
        int a = party();
        int b = ride();
        int c = slot();
        int t = ticketIn(kind == 19 || kind == 20 ? Model.State.OPEN : Model.State.ACTIVE);
        int n = size();
        switch (kind) {
            case 0 -> {
                String text = random.nextInt(10) == 0 ? park(style) : spoilt(park(style));
                load(text, true);
            }
            case 1 -> load(random.nextBoolean() ? script() : spoilt(script()), false);
            case 2, 3 -> {
                int slots = random.nextInt(9) == 0 ? oddNumber() : 1 + random.nextInt(2);
                same("runScript " + slots, () -> q.runScript(slots), () -> m.runScript(slots));
            }
            case 4, 5 -> {
                int slots = random.nextInt(9) == 0 ? oddNumber() : 1 + random.nextInt(2);
                same("advance " + slots, () -> q.advance(slots), () -> m.advance(slots));
            }
            case 6 -> same("addParty " + n, () -> q.addParty(b % 5, n), () -> m.addParty(b % 5, n));
            case 7, 8, 9 -> {
                int other = party();
                same("issueJoint " + a + " " + other + " " + b + " " + c, () -> q.issueJoint(a, other, b, c),
                        () -> m.issueJoint(a, other, b, c));
            }
            case 10, 11 -> same("moveTicket " + t + " " + c, () -> q.moveTicket(t, c), () -> m.moveTicket(t, c));
            case 12, 13 -> same("exchange " + t + " " + b + " " + c, () -> q.exchange(t, b, c), () -> m.exchange(t, b, c));
            case 14 -> same("cancel " + t, () -> q.cancel(t), () -> m.cancel(t));
            case 15, 16, 17, 18 -> same("redeem " + t, () -> q.redeem(t), () -> m.redeem(t));
            case 19, 20 -> same("redeemOpen " + t + " " + b, () -> q.redeemOpen(t, b), () -> m.redeemOpen(t, b));
            case 21, 22, 23, 24 -> same("joinWaitlist " + a + " " + b, () -> q.joinWaitlist(a, b), () -> m.joinWaitlist(a, b));
            case 25 -> same("leaveWaitlist " + a + " " + b, () -> q.leaveWaitlist(a, b), () -> m.leaveWaitlist(a, b));
            case 26, 27, 28 -> same("joinStandby " + b + " " + n, () -> q.joinStandby(b, n), () -> m.joinStandby(b, n));
            case 29, 36 -> same("breakDown " + b, () -> q.breakDown(b), () -> m.breakDown(b));
            case 30, 37, 38, 39 -> same("repair " + b, () -> q.repair(b), () -> m.repair(b));
            case 31 -> {
                int share = random.nextInt(6) == 0 ? oddNumber() : upTo(100);
                same("setShare " + b + " " + share, () -> q.setShare(b, share), () -> m.setShare(b, share));
            }
            case 32 -> {
                int limit = random.nextInt(3) == 0 ? random.nextInt(60) - 5 : upTo(3);
                same("setExtensionLimit " + limit, () -> q.setExtensionLimit(limit), () -> m.setExtensionLimit(limit));
            }
            case 33 -> {
                int place = random.nextInt(4) - 1;
                same("saveSnapshot " + place, () -> q.saveSnapshot(place), () -> m.saveSnapshot(place));
            }
            case 34 -> {
                int place = random.nextInt(4) - 1;
                same("restoreSnapshot " + place, () -> q.restoreSnapshot(place), () -> m.restoreSnapshot(place));
                tickets();
            }
            case 35 -> same("formatItinerary " + a, () -> q.formatItinerary(a), () -> m.formatItinerary(a));
            default -> same("issue " + a + " " + b + " " + c, () -> q.issue(a, b, c), () -> m.issue(a, b, c));
        }
    }

    // ---- calls that change nothing ----

    private void query() {
        int a = party();
        int b = ride();
        int c = slot();
        int t = ticket();
        int n = size();
        int k = random.nextInt(12) - 2;
        int mask = mask();
        boolean merge = random.nextBoolean();
        switch (random.nextInt(29)) {
            case 0 -> counts();
            case 1 -> tickets();
            case 2 -> same("planned " + b + " " + c, () -> q.planned(b, c), () -> m.planned(b, c));
            case 3 -> same("remaining " + b + " " + c, () -> q.remaining(b, c), () -> m.remaining(b, c));
            case 4 -> same("nextWindow " + a + " " + b + " " + c, () -> q.nextWindow(a, b, c), () -> m.nextWindow(a, b, c));
            case 5 -> ticket(t);
            case 6 -> same("countTickets " + a, () -> q.countTickets(a, k), () -> m.countTickets(a, k));
            case 7 -> same("itinerary " + a + " " + k, () -> q.itinerary(a, k), () -> m.itinerary(a, k));
            case 8 -> same("waitlistAt " + b + " " + k, () -> q.waitlistAt(b, k), () -> m.waitlistAt(b, k));
            case 9 -> same("standbyPersons " + b, () -> q.standbyPersons(b), () -> m.persons(b, false));
            case 10 -> same("mergePersons " + b, () -> q.mergePersons(b), () -> m.persons(b, true));
            case 11 -> same("isDown " + b, () -> q.isDown(b), () -> m.isDown(b));
            case 12 -> same("boarded " + b + " " + merge, () -> q.boarded(b, merge), () -> m.boarded(b, merge));
            case 13 -> same("averageWait " + b, () -> q.averageWait(b), () -> m.averageWait(b));
            case 14 -> same("longestWait " + b, () -> q.longestWait(b), () -> m.longestWait(b));
            case 15, 16 -> same("forecastStandby " + b + " " + n, () -> q.forecastStandby(b, n), () -> m.forecastStandby(b, n));
            case 17 -> same("expectedReturns " + b + " " + c, () -> q.expectedReturns(b, c), () -> m.expectedReturns(b, c));
            case 18 -> same("expiredPart " + b, () -> q.expiredPart(b), () -> m.expiredPart(b));
            case 19 -> same("capacityLeft " + b, () -> q.capacityLeft(b), () -> m.capacityLeft(b));
            case 20 -> same("peakSlot " + b, () -> q.peakSlot(b), () -> m.peakSlot(b));
            case 21 -> same("usage " + b, () -> q.usage(b), () -> m.usage(b));
            case 22, 26 -> same("bestFinish " + a + " " + mask, () -> q.bestFinish(a, mask), () -> m.bestFinish(a, mask));
            case 23, 27 -> {
                for (int place = -1; place <= 5; place++) {
                    int index = place;
                    same("bestOrder " + a + " " + mask + " " + index, () -> q.bestOrder(a, mask, index),
                            () -> m.bestOrder(a, mask, index));
                }
            }
            case 24 -> same("mostServed " + b, () -> q.mostServed(b), () -> m.mostServed(b));
            case 25 -> same("servedSet " + b, () -> q.servedSet(b), () -> m.servedSet(b));
            default -> same("formattedByte " + k, () -> q.formattedByte(k), () -> m.formattedByte(k));
        }
    }

    private int mask() {
        if (random.nextInt(10) == 0) {
            return random.nextBoolean() ? oddNumber() : random.nextInt(256);
        }
        int mask = 0;
        int rides = 1 + random.nextInt(5);
        for (int k = 0; k < rides; k++) {
            mask |= m.w.rides.isEmpty() ? 0 : 1 << random.nextInt(m.w.rides.size());
        }
        return mask;
    }

    private void counts() {
        same("rideCount", q::rideCount, () -> m.w.rides.size());
        same("tierCount", q::tierCount, () -> m.w.tiers.size());
        same("partyCount", q::partyCount, () -> m.w.parties.size());
        same("ticketCount", q::ticketCount, () -> m.w.tickets.size());
        same("now", q::now, () -> m.w.now);
        same("scriptLength", q::scriptLength, () -> m.script.size());
        for (int p = 0; p < m.w.parties.size(); p++) {
            int party = p;
            same("partySize " + p, () -> q.partySize(party), () -> m.w.parties.get(party).size);
            same("partyTier " + p, () -> q.partyTier(party), () -> m.w.parties.get(party).tier);
        }
    }

    private void tickets() {
        same("ticketCount", q::ticketCount, () -> m.w.tickets.size());
        for (int t = 0; t < m.w.tickets.size(); t++) {
            ticket(t);
        }
    }

    private void ticket(int t) {
        same("ticketParty " + t, () -> q.ticketParty(t), () -> m.ticket(t).party);
        same("ticketRide " + t, () -> q.ticketRide(t), () -> m.ticket(t).ride);
        same("ticketStart " + t, () -> q.ticketStart(t), () -> m.ticket(t).start);
        same("ticketEnd " + t, () -> q.ticketEnd(t), () -> m.ticket(t).end);
        same("ticketState " + t, () -> q.ticketState(t), () -> m.ticket(t).state.ordinal());
        same("ticketExtension " + t, () -> q.ticketExtension(t), () -> m.ticket(t).extension);
    }
}
