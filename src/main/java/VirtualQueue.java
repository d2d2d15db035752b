import java.util.Arrays;

/** A virtual queue system for a theme park; see README.md. */
public final class VirtualQueue {
    public static final int NONE = -1;
    public static final int NOT_ALLOWED = -2;
    public static final int DUPLICATE = -3;
    public static final int NO_WINDOW = -4;
    public static final int RIDE_DOWN = -5;
    public static final int FULL = -6;
    public static final int TEXT_ERROR = -7;
    public static final int ACTIVE = 0;
    public static final int USED = 1;
    public static final int EXPIRED = 2;
    public static final int CANCELLED = 3;
    public static final int OPEN = 4;

    private static final int SLOTS = 144;
    private static final int LAST_SLOT = 143;
    private static final int MOST_RIDES = 8;
    private static final int MOST_TIERS = 4;
    private static final int MOST_PARTIES = 50;
    private static final int MOST_TICKETS = 150;
    private static final int MOST_STANDBY = 60;
    private static final int MOST_PERSONS = 12;
    private static final int MOST_SHARE = 100;
    private static final int MOST_LENGTH = 24;
    private static final int MOST_EXTENSION = 48;
    private static final int MOST_INPUT = 1500;
    private static final int BYTES_A_CALL = 20;
    private static final int MOST_ENTRIES = 40;
    private static final int MOST_PLANNED = 5;
    private static final int MOST_CONSIDERED = 8;
    private static final int SNAPSHOTS = 2;
    private static final int USUAL_EXTENSION = 6;
    // A party has at most 5 ACTIVE tickets, and each takes at most 10 bytes ("7@143-214;").
    private static final int MOST_FORMATTED = 64;
    // The answer of a check that finds nothing against it; every refusal is negative.
    private static final int ALLOWED = 0;

    private final Input input = new Input();
    private final ParkDraft parkDraft = new ParkDraft();
    private final Script scriptDraft = new Script();
    private final Script script = new Script();
    private final Day day = new Day();
    private final Desk desk = new Desk();
    private final Planner planner = new Planner();
    // Made when a slot is first saved to, then used again, so that an object that saves nothing stays small.
    private final Day[] snapshots = new Day[SNAPSHOTS];
    private final boolean[] saved = new boolean[SNAPSHOTS];
    private final byte[] formatted = new byte[MOST_FORMATTED];
    private int formattedLength;

    public VirtualQueue() {
    }

    // ---- input ----

    public int appendInput(int w0, int w1, int w2, int w3, int w4) {
        if (input.length > MOST_INPUT - BYTES_A_CALL) {
            return NONE;
        }
        input.put(w0);
        input.put(w1);
        input.put(w2);
        input.put(w3);
        input.put(w4);
        return input.length;
    }

    public int truncateInput(int length) {
        if (length < 0 || length > input.length) {
            return NONE;
        }
        input.length = length;
        return length;
    }

    public int loadPark() {
        int statements = parkDraft.read(input);
        input.length = 0;
        if (input.failed()) {
            return TEXT_ERROR;
        }
        day.begin(parkDraft);
        script.clear();
        for (int slot = 0; slot < SNAPSHOTS; slot++) {
            saved[slot] = false;
        }
        return statements;
    }

    public int loadScript() {
        scriptDraft.read(input);
        input.length = 0;
        if (input.failed()) {
            return TEXT_ERROR;
        }
        script.copyFrom(scriptDraft);
        return script.count;
    }

    public int errorCode() {
        return input.errorCode;
    }

    public int errorPosition() {
        return input.errorPosition;
    }

    // ---- park ----

    public int rideCount() {
        return day.rides.count;
    }

    public int tierCount() {
        return day.guests.tierCount;
    }

    public int partyCount() {
        return day.guests.count;
    }

    public int now() {
        return day.now;
    }

    public int addParty(int tier, int size) throws IndexOutOfBoundsException, IllegalArgumentException {
        if (tier < 0 || tier >= day.guests.tierCount) {
            throw new IndexOutOfBoundsException("no such tier");
        }
        needSize(size);
        if (day.guests.count >= MOST_PARTIES) {
            return FULL;
        }
        return day.guests.addGuests(tier, size);
    }

    public int partySize(int party) throws IndexOutOfBoundsException {
        needParty(party);
        return day.guests.size[party];
    }

    public int partyTier(int party) throws IndexOutOfBoundsException {
        needParty(party);
        return day.guests.tier[party];
    }

    public int planned(int ride, int slot) throws IndexOutOfBoundsException, IllegalArgumentException {
        needRide(ride);
        needSlot(slot);
        return day.rides.plannedIn(ride, slot);
    }

    public int remaining(int ride, int slot) throws IndexOutOfBoundsException, IllegalArgumentException {
        needRide(ride);
        needSlot(slot);
        return desk.freeIn(day, ride, slot);
    }

    // ---- tickets ----

    public int issue(int party, int ride, int earliest) throws IndexOutOfBoundsException, IllegalArgumentException {
        needParty(party);
        needRide(ride);
        needSlot(earliest);
        return desk.issueTo(day, party, ride, earliest);
    }

    public int nextWindow(int party, int ride, int earliest)
            throws IndexOutOfBoundsException, IllegalArgumentException {
        needParty(party);
        needRide(ride);
        needSlot(earliest);
        return desk.startFor(day, party, ride, earliest);
    }

    public int issueJoint(int party, int other, int ride, int earliest)
            throws IndexOutOfBoundsException, IllegalArgumentException {
        needParty(party);
        needParty(other);
        needRide(ride);
        if (party == other) {
            throw new IllegalArgumentException("both parties are the same");
        }
        needSlot(earliest);
        return desk.issueToBoth(day, party, other, ride, earliest);
    }

    public int moveTicket(int ticket, int earliest) throws IndexOutOfBoundsException, IllegalArgumentException {
        needTicket(ticket);
        needSlot(earliest);
        return desk.move(day, ticket, earliest);
    }

    public int exchange(int ticket, int ride, int earliest) throws IndexOutOfBoundsException, IllegalArgumentException {
        needTicket(ticket);
        needRide(ride);
        needSlot(earliest);
        return desk.swap(day, ticket, ride, earliest);
    }

    public int cancel(int ticket) throws IndexOutOfBoundsException {
        needTicket(ticket);
        return desk.giveBack(day, ticket);
    }

    public boolean redeem(int ticket) throws IndexOutOfBoundsException {
        needTicket(ticket);
        return day.admit(ticket);
    }

    public boolean redeemOpen(int ticket, int ride) throws IndexOutOfBoundsException {
        needTicket(ticket);
        needRide(ride);
        return day.admitOpen(ticket, ride);
    }

    public int ticketCount() {
        return day.tickets.count;
    }

    public int ticketParty(int ticket) throws IndexOutOfBoundsException {
        needTicket(ticket);
        return day.tickets.party[ticket];
    }

    public int ticketRide(int ticket) throws IndexOutOfBoundsException {
        needTicket(ticket);
        return day.tickets.ride[ticket];
    }

    public int ticketStart(int ticket) throws IndexOutOfBoundsException {
        needTicket(ticket);
        return day.tickets.start[ticket];
    }

    public int ticketEnd(int ticket) throws IndexOutOfBoundsException {
        needTicket(ticket);
        return day.tickets.end[ticket];
    }

    public int ticketState(int ticket) throws IndexOutOfBoundsException {
        needTicket(ticket);
        return day.tickets.state[ticket];
    }

    public int ticketExtension(int ticket) throws IndexOutOfBoundsException {
        needTicket(ticket);
        return day.tickets.extension[ticket];
    }

    public int countTickets(int party, int state) throws IndexOutOfBoundsException, IllegalArgumentException {
        needParty(party);
        if (state < ACTIVE || state > OPEN) {
            throw new IllegalArgumentException("no such state");
        }
        return day.tickets.countOf(party, state);
    }

    public int itinerary(int party, int index) throws IndexOutOfBoundsException {
        needParty(party);
        return day.tickets.activeAt(party, index);
    }

    // ---- waitlists ----

    public int joinWaitlist(int party, int ride) throws IndexOutOfBoundsException {
        needParty(party);
        needRide(ride);
        return day.putOnWaitlist(party, ride);
    }

    public boolean leaveWaitlist(int party, int ride) throws IndexOutOfBoundsException {
        needParty(party);
        needRide(ride);
        return day.waitlists.remove(ride, party);
    }

    public int waitlistAt(int ride, int index) throws IndexOutOfBoundsException {
        needRide(ride);
        if (index < 0 || index >= day.waitlists.count[ride]) {
            return NONE;
        }
        return day.waitlists.party[ride][index];
    }

    // ---- lines and the passing of time ----

    public int joinStandby(int ride, int size) throws IndexOutOfBoundsException, IllegalArgumentException {
        needRide(ride);
        needSize(size);
        return day.putOnStandby(ride, size);
    }

    public int standbyPersons(int ride) throws IndexOutOfBoundsException {
        needRide(ride);
        return day.standby[ride].persons();
    }

    public int mergePersons(int ride) throws IndexOutOfBoundsException {
        needRide(ride);
        return day.merge[ride].persons();
    }

    public int advance(int slots) throws IllegalArgumentException {
        needSlotsLeft(slots);
        for (int passed = 0; passed < slots; passed++) {
            day.pass();
        }
        return day.now;
    }

    public boolean isDown(int ride) throws IndexOutOfBoundsException {
        needRide(ride);
        return day.rides.down[ride];
    }

    public boolean breakDown(int ride) throws IndexOutOfBoundsException {
        needRide(ride);
        return day.rides.takeDown(ride);
    }

    public int repair(int ride) throws IndexOutOfBoundsException {
        needRide(ride);
        return desk.putBack(day, ride);
    }

    public int setShare(int ride, int share) throws IndexOutOfBoundsException, IllegalArgumentException {
        needRide(ride);
        if (share < 0 || share > MOST_SHARE) {
            throw new IllegalArgumentException("share is out of range");
        }
        return desk.changeShare(day, ride, share);
    }

    public boolean setExtensionLimit(int limit) {
        if (limit < 0 || limit > MOST_EXTENSION) {
            return false;
        }
        day.extensionLimit = limit;
        return true;
    }

    // ---- queries ----

    public int boarded(int ride, boolean merge) throws IndexOutOfBoundsException {
        needRide(ride);
        return merge ? day.rides.mergeBoarded[ride] : day.rides.standbyBoarded[ride];
    }

    public double averageWait(int ride) throws IndexOutOfBoundsException, ArithmeticException {
        needRide(ride);
        int groups = day.rides.groups[ride];
        if (groups == 0) {
            throw new ArithmeticException("no group has boarded");
        }
        return (double) day.rides.waits[ride] / groups;
    }

    public int longestWait(int ride) throws IndexOutOfBoundsException {
        needRide(ride);
        return day.rides.longest[ride];
    }

    public int forecastStandby(int ride, int size) throws IndexOutOfBoundsException, IllegalArgumentException {
        needRide(ride);
        needSize(size);
        return day.waitOfNewGroup(ride, size);
    }

    public int expectedReturns(int ride, int slot) throws IndexOutOfBoundsException, IllegalArgumentException {
        needRide(ride);
        needSlot(slot);
        return day.returnsIn(ride, slot);
    }

    public double expiredPart(int ride) throws IndexOutOfBoundsException, ArithmeticException {
        needRide(ride);
        int expired = day.tickets.countFor(ride, EXPIRED);
        int ended = expired + day.tickets.countFor(ride, USED);
        if (ended == 0) {
            throw new ArithmeticException("no ticket is used or expired");
        }
        return (double) expired / ended;
    }

    public int capacityLeft(int ride) throws IndexOutOfBoundsException {
        needRide(ride);
        return desk.freeFromNow(day, ride);
    }

    public int peakSlot(int ride) throws IndexOutOfBoundsException {
        needRide(ride);
        return desk.slotOfMostCharged(day, ride);
    }

    public double usage(int ride) throws IndexOutOfBoundsException, ArithmeticException {
        needRide(ride);
        int all = day.rides.plannedInAll(ride);
        if (all == 0) {
            throw new ArithmeticException("no capacity is planned");
        }
        return (double) day.chargedInAll(ride) / all;
    }

    public int bestFinish(int party, int rides) throws IndexOutOfBoundsException, IllegalArgumentException {
        needParty(party);
        needPlannable(rides);
        planner.plan(day, party, rides);
        return planner.bestEnd == NONE ? NO_WINDOW : planner.bestEnd;
    }

    public int bestOrder(int party, int rides, int index) throws IndexOutOfBoundsException, IllegalArgumentException {
        needParty(party);
        needPlannable(rides);
        planner.plan(day, party, rides);
        if (planner.bestEnd == NONE || index < 0 || index >= Integer.bitCount(rides)) {
            return NONE;
        }
        return planner.best[index];
    }

    public int mostServed(int ride) throws IndexOutOfBoundsException {
        needRide(ride);
        return Integer.bitCount(planner.largestSet(day, ride));
    }

    public int servedSet(int ride) throws IndexOutOfBoundsException {
        needRide(ride);
        return planner.largestSet(day, ride);
    }

    // ---- script ----

    public int runScript(int slots) throws IllegalArgumentException {
        needSlotsLeft(slots);
        int succeeded = 0;
        for (int passed = 0; passed < slots; passed++) {
            script.dropBefore(day.now);
            for (int k = 0; k < MOST_ENTRIES && script.isDue(day.now); k++) {
                succeeded += succeeds(script.take()) ? 1 : 0;
            }
            day.pass();
        }
        return succeeded;
    }

    public int scriptLength() {
        return script.left();
    }

    // ---- snapshots ----

    public boolean saveSnapshot(int slot) {
        if (slot < 0 || slot >= SNAPSHOTS) {
            return false;
        }
        if (snapshots[slot] == null) {
            snapshots[slot] = new Day();
        }
        snapshots[slot].copyFrom(day);
        saved[slot] = true;
        return true;
    }

    public boolean restoreSnapshot(int slot) {
        if (slot < 0 || slot >= SNAPSHOTS || !saved[slot] || snapshots[slot] == null) {
            return false;
        }
        day.copyFrom(snapshots[slot]);
        return true;
    }

    // ---- formatted text ----

    public int formatItinerary(int party) throws IndexOutOfBoundsException {
        needParty(party);
        formattedLength = 0;
        int stops = day.tickets.countOf(party, ACTIVE);
        for (int index = 0; index < stops; index++) {
            int ticket = day.tickets.activeAt(party, index);
            if (ticket != NONE) {
                formatNumber(day.tickets.ride[ticket]);
                formatSign('@');
                formatNumber(day.tickets.start[ticket]);
                formatSign('-');
                formatNumber(day.tickets.end[ticket]);
                formatSign(';');
            }
        }
        return formattedLength;
    }

    public int formattedByte(int index) {
        if (index < 0 || index >= formattedLength) {
            return NONE;
        }
        return formatted[index];
    }

    // ---- help for the face ----

    private void needRide(int ride) {
        if (ride < 0 || ride >= day.rides.count) {
            throw new IndexOutOfBoundsException("no such ride");
        }
    }

    private void needParty(int party) {
        if (party < 0 || party >= day.guests.count) {
            throw new IndexOutOfBoundsException("no such party");
        }
    }

    private void needTicket(int ticket) {
        if (ticket < 0 || ticket >= day.tickets.count) {
            throw new IndexOutOfBoundsException("no such ticket");
        }
    }

    private void needSlot(int slot) {
        if (slot < 0 || slot > LAST_SLOT) {
            throw new IllegalArgumentException("the slot is out of range");
        }
    }

    private void needSize(int size) {
        if (size < 1 || size > MOST_PERSONS) {
            throw new IllegalArgumentException("the size is out of range");
        }
    }

    private void needSlotsLeft(int slots) {
        if (slots < 1 || slots > SLOTS || day.now + slots > SLOTS) {
            throw new IllegalArgumentException("there are not that many slots");
        }
    }

    private void needPlannable(int rides) {
        int known = (1 << day.rides.count) - 1;
        if ((rides & ~known) != 0 || rides == 0 || Integer.bitCount(rides) > MOST_PLANNED) {
            throw new IllegalArgumentException("the rides cannot be planned");
        }
    }

    /** Executes an entry; where the method of the face would throw, it fails here without an exception. */
    private boolean succeeds(int entry) {
        int a = script.first[entry];
        int b = script.second[entry];
        switch (script.action[entry]) {
            case Script.ISSUE:
                return hasParty(a) && hasRide(b) && desk.issueTo(day, a, b, script.third[entry]) >= 0;
            case Script.REDEEM:
                return hasTicket(a) && day.admit(a);
            case Script.CANCEL:
                return hasTicket(a) && desk.giveBack(day, a) >= 0;
            case Script.WAIT:
                return hasParty(a) && hasRide(b) && day.putOnWaitlist(a, b) >= 0;
            case Script.STANDBY:
                return hasRide(a) && day.putOnStandby(a, b) >= 0;
            case Script.BREAK:
                return hasRide(a) && day.rides.takeDown(a);
            default:
                return hasRide(a) && desk.putBack(day, a) >= 0;
        }
    }

    private boolean hasRide(int ride) {
        return ride >= 0 && ride < day.rides.count;
    }

    private boolean hasParty(int party) {
        return party >= 0 && party < day.guests.count;
    }

    private boolean hasTicket(int ticket) {
        return ticket >= 0 && ticket < day.tickets.count;
    }

    private void formatSign(char sign) {
        if (formattedLength < MOST_FORMATTED) {
            formatted[formattedLength] = (byte) sign;
            formattedLength++;
        }
    }

    private void formatNumber(int number) {
        if (number >= 100) {
            formatSign((char) ('0' + number / 100));
        }
        if (number >= 10) {
            formatSign((char) ('0' + number / 10 % 10));
        }
        formatSign((char) ('0' + number % 10));
    }

    /** The rides, with what they have boarded so far. */
    private static final class Rides {
        final int[] capacity = new int[MOST_RIDES];
        final int[] share = new int[MOST_RIDES];
        final int[] length = new int[MOST_RIDES];
        final int[] first = new int[MOST_RIDES];
        final int[] last = new int[MOST_RIDES];
        final boolean[] down = new boolean[MOST_RIDES];
        final int[] mergeBoarded = new int[MOST_RIDES];
        final int[] standbyBoarded = new int[MOST_RIDES];
        final int[] groups = new int[MOST_RIDES];
        final int[] waits = new int[MOST_RIDES];
        final int[] longest = new int[MOST_RIDES];
        int count;

        /** Rides are added to a draft only, which never runs: what they have boarded is 0 there, and none is down. */
        void addRide(int persons, int percent, int slots, int from, int to) {
            if (count >= MOST_RIDES) {
                return;
            }
            capacity[count] = persons;
            share[count] = percent;
            length[count] = slots;
            first[count] = from;
            last[count] = to;
            count++;
        }

        boolean runsIn(int ride, int slot) {
            return !down[ride] && slot >= first[ride] && slot <= last[ride];
        }

        int plannedIn(int ride, int slot) {
            boolean open = slot >= first[ride] && slot <= last[ride];
            return open ? capacity[ride] * share[ride] / 100 : 0;
        }

        int plannedInAll(int ride) {
            int sum = 0;
            for (int slot = 0; slot < SLOTS; slot++) {
                sum += plannedIn(ride, slot);
            }
            return sum;
        }

        boolean takeDown(int ride) {
            if (down[ride]) {
                return false;
            }
            down[ride] = true;
            return true;
        }

        void noteGroup(int ride, int wait) {
            groups[ride]++;
            waits[ride] += wait;
            longest[ride] = Math.max(longest[ride], wait);
        }

        void copyFrom(Rides other) {
            System.arraycopy(other.capacity, 0, capacity, 0, MOST_RIDES);
            System.arraycopy(other.share, 0, share, 0, MOST_RIDES);
            System.arraycopy(other.length, 0, length, 0, MOST_RIDES);
            System.arraycopy(other.first, 0, first, 0, MOST_RIDES);
            System.arraycopy(other.last, 0, last, 0, MOST_RIDES);
            System.arraycopy(other.down, 0, down, 0, MOST_RIDES);
            System.arraycopy(other.mergeBoarded, 0, mergeBoarded, 0, MOST_RIDES);
            System.arraycopy(other.standbyBoarded, 0, standbyBoarded, 0, MOST_RIDES);
            System.arraycopy(other.groups, 0, groups, 0, MOST_RIDES);
            System.arraycopy(other.waits, 0, waits, 0, MOST_RIDES);
            System.arraycopy(other.longest, 0, longest, 0, MOST_RIDES);
            count = other.count;
        }
    }

    /** The tiers and the parties. */
    private static final class Guests {
        final int[] limit = new int[MOST_TIERS];
        final int[] horizon = new int[MOST_TIERS];
        final int[] pause = new int[MOST_TIERS];
        final int[] rank = new int[MOST_TIERS];
        int tierCount;
        final int[] tier = new int[MOST_PARTIES];
        final int[] size = new int[MOST_PARTIES];
        // The slot in which a ticket was last issued to the party, NONE before its first one.
        final int[] lastIssue = new int[MOST_PARTIES];
        int count;

        void addTier(int most, int slots, int rest, int order) {
            if (tierCount >= MOST_TIERS) {
                return;
            }
            limit[tierCount] = most;
            horizon[tierCount] = slots;
            pause[tierCount] = rest;
            rank[tierCount] = order;
            tierCount++;
        }

        int addGuests(int ofTier, int persons) {
            if (count >= MOST_PARTIES) {
                return FULL;
            }
            tier[count] = ofTier;
            size[count] = persons;
            lastIssue[count] = NONE;
            count++;
            return count - 1;
        }

        int limitOf(int party) {
            return limit[tier[party]];
        }

        int horizonOf(int party) {
            return horizon[tier[party]];
        }

        int rankOf(int party) {
            return rank[tier[party]];
        }

        boolean mustPause(int party, int now) {
            return lastIssue[party] != NONE && now - lastIssue[party] < pause[tier[party]];
        }

        void copyFrom(Guests other) {
            System.arraycopy(other.limit, 0, limit, 0, MOST_TIERS);
            System.arraycopy(other.horizon, 0, horizon, 0, MOST_TIERS);
            System.arraycopy(other.pause, 0, pause, 0, MOST_TIERS);
            System.arraycopy(other.rank, 0, rank, 0, MOST_TIERS);
            tierCount = other.tierCount;
            System.arraycopy(other.tier, 0, tier, 0, MOST_PARTIES);
            System.arraycopy(other.size, 0, size, 0, MOST_PARTIES);
            System.arraycopy(other.lastIssue, 0, lastIssue, 0, MOST_PARTIES);
            count = other.count;
        }
    }

    private static final class Tickets {
        final int[] party = new int[MOST_TICKETS];
        final int[] ride = new int[MOST_TICKETS];
        final int[] start = new int[MOST_TICKETS];
        final int[] end = new int[MOST_TICKETS];
        final int[] state = new int[MOST_TICKETS];
        final int[] extension = new int[MOST_TICKETS];
        int count;

        int addTicket(int toParty, int forRide, int from, int to) {
            if (count >= MOST_TICKETS) {
                return FULL;
            }
            party[count] = toParty;
            ride[count] = forRide;
            start[count] = from;
            end[count] = to;
            state[count] = ACTIVE;
            extension[count] = 0;
            count++;
            return count - 1;
        }

        boolean covers(int ticket, int slot) {
            return start[ticket] <= slot && slot <= end[ticket];
        }

        boolean isActiveOf(int ticket, int ofParty) {
            return state[ticket] == ACTIVE && party[ticket] == ofParty;
        }

        boolean hasActive(int ofParty, int forRide) {
            for (int ticket = 0; ticket < count; ticket++) {
                if (state[ticket] == ACTIVE && party[ticket] == ofParty && ride[ticket] == forRide) {
                    return true;
                }
            }
            return false;
        }

        int countOf(int ofParty, int inState) {
            int found = 0;
            for (int ticket = 0; ticket < count; ticket++) {
                if (party[ticket] == ofParty && state[ticket] == inState) {
                    found++;
                }
            }
            return found;
        }

        int countFor(int forRide, int inState) {
            int found = 0;
            for (int ticket = 0; ticket < count; ticket++) {
                if (ride[ticket] == forRide && state[ticket] == inState) {
                    found++;
                }
            }
            return found;
        }

        /** The ACTIVE ticket of a party that has just so many before it in its itinerary. */
        int activeAt(int ofParty, int before) {
            for (int ticket = 0; ticket < count; ticket++) {
                if (isActiveOf(ticket, ofParty) && activeBefore(ticket, ofParty) == before) {
                    return ticket;
                }
            }
            return NONE;
        }

        private int activeBefore(int ticket, int ofParty) {
            int before = 0;
            for (int other = 0; other < count; other++) {
                boolean earlier = start[other] < start[ticket] || start[other] == start[ticket] && other < ticket;
                if (earlier && isActiveOf(other, ofParty)) {
                    before++;
                }
            }
            return before;
        }

        void copyFrom(Tickets other) {
            System.arraycopy(other.party, 0, party, 0, MOST_TICKETS);
            System.arraycopy(other.ride, 0, ride, 0, MOST_TICKETS);
            System.arraycopy(other.start, 0, start, 0, MOST_TICKETS);
            System.arraycopy(other.end, 0, end, 0, MOST_TICKETS);
            System.arraycopy(other.state, 0, state, 0, MOST_TICKETS);
            System.arraycopy(other.extension, 0, extension, 0, MOST_TICKETS);
            count = other.count;
        }
    }

    /** A line of groups before a ride; the first one stands at 0. */
    private static final class Line {
        final int[] size;
        final int[] joined;
        int count;

        Line(int most) {
            int places = Math.max(most, 0);
            size = new int[places];
            joined = new int[places];
        }

        void join(int persons, int slot) {
            if (count < size.length) {
                size[count] = persons;
                joined[count] = slot;
                count++;
            }
        }

        void leaveFirst() {
            if (count > 0) {
                count--;
                System.arraycopy(size, 1, size, 0, count);
                System.arraycopy(joined, 1, joined, 0, count);
            }
        }

        int persons() {
            return personsIn(0, count);
        }

        int personsIn(int from, int groups) {
            int sum = 0;
            int behind = Math.min(from + groups, count);
            for (int group = Math.max(from, 0); group < behind; group++) {
                sum += size[group];
            }
            return sum;
        }

        /** How many groups, from one of them on, find room together among so many places. */
        int fitting(int from, int places) {
            int persons = 0;
            int groups = 0;
            for (int group = Math.max(from, 0); group < count; group++) {
                persons += size[group];
                if (persons > places) {
                    return groups;
                }
                groups++;
            }
            return groups;
        }

        void copyFrom(Line other) {
            if (other.count > size.length) {
                return;
            }
            count = other.count;
            System.arraycopy(other.size, 0, size, 0, count);
            System.arraycopy(other.joined, 0, joined, 0, count);
        }
    }

    /** The waitlists of all rides. */
    private static final class Waitlists {
        final int[][] party = new int[MOST_RIDES][MOST_PARTIES];
        final int[] count = new int[MOST_RIDES];

        int positionOf(int ride, int ofParty) {
            for (int position = 0; position < count[ride]; position++) {
                if (party[ride][position] == ofParty) {
                    return position;
                }
            }
            return NONE;
        }

        /** Puts a party behind all that have its rank or a lower one. */
        int insert(int ride, int newParty, Guests guests) {
            if (count[ride] >= MOST_PARTIES) {
                return FULL;
            }
            int position = count[ride];
            while (position > 0 && guests.rankOf(party[ride][position - 1]) > guests.rankOf(newParty)) {
                party[ride][position] = party[ride][position - 1];
                position--;
            }
            party[ride][position] = newParty;
            count[ride]++;
            return position;
        }

        boolean remove(int ride, int oldParty) {
            int position = positionOf(ride, oldParty);
            if (position == NONE) {
                return false;
            }
            count[ride]--;
            for (int k = position; k < count[ride]; k++) {
                party[ride][k] = party[ride][k + 1];
            }
            return true;
        }

        void clear() {
            Arrays.fill(count, 0);
        }

        void copyFrom(Waitlists other) {
            for (int ride = 0; ride < MOST_RIDES; ride++) {
                System.arraycopy(other.party[ride], 0, party[ride], 0, MOST_PARTIES);
                count[ride] = other.count[ride];
            }
        }
    }

    /** Everything that a snapshot holds. */
    private static final class Day {
        int now;
        int extensionLimit = USUAL_EXTENSION;
        final Rides rides = new Rides();
        final Guests guests = new Guests();
        final Tickets tickets = new Tickets();
        final Waitlists waitlists = new Waitlists();
        final Line[] merge = new Line[MOST_RIDES];
        final Line[] standby = new Line[MOST_RIDES];

        Day() {
            for (int ride = 0; ride < MOST_RIDES; ride++) {
                // Each ticket joins a merge line once at most, so none grows beyond all tickets.
                merge[ride] = new Line(MOST_TICKETS);
                standby[ride] = new Line(MOST_STANDBY);
            }
        }

        void begin(ParkDraft park) {
            now = 0;
            extensionLimit = park.extensionLimit;
            rides.copyFrom(park.rides);
            guests.copyFrom(park.guests);
            tickets.count = 0;
            waitlists.clear();
            for (int ride = 0; ride < MOST_RIDES; ride++) {
                merge[ride].count = 0;
                standby[ride].count = 0;
            }
        }

        void copyFrom(Day other) {
            now = other.now;
            extensionLimit = other.extensionLimit;
            rides.copyFrom(other.rides);
            guests.copyFrom(other.guests);
            tickets.copyFrom(other.tickets);
            waitlists.copyFrom(other.waitlists);
            for (int ride = 0; ride < MOST_RIDES; ride++) {
                merge[ride].copyFrom(other.merge[ride]);
                standby[ride].copyFrom(other.standby[ride]);
            }
        }

        int sizeOfTicket(int ticket) {
            return guests.size[tickets.party[ticket]];
        }

        private boolean isCharged(int ticket, int ride) {
            return tickets.ride[ticket] == ride && tickets.state[ticket] != CANCELLED;
        }

        int chargedInAll(int ride) {
            int persons = 0;
            for (int ticket = 0; ticket < tickets.count; ticket++) {
                if (isCharged(ticket, ride)) {
                    persons += sizeOfTicket(ticket);
                }
            }
            return persons;
        }

        /** Fills a row with a ride's remaining capacities, as if one ticket (or NONE) were not charged. */
        void fillFree(int[] row, int ride, int except) {
            for (int slot = 0; slot < row.length; slot++) {
                row[slot] = rides.plannedIn(ride, slot);
            }
            for (int ticket = 0; ticket < tickets.count; ticket++) {
                int slot = tickets.start[ticket];
                if (ticket != except && isCharged(ticket, ride) && slot >= 0 && slot < row.length) {
                    row[slot] -= sizeOfTicket(ticket);
                }
            }
        }

        /** Fills a row with the slots that ACTIVE tickets of a party, and of another (or NONE), block; one does not. */
        void fillTaken(boolean[] row, int party, int other, int except) {
            for (int slot = 0; slot < row.length; slot++) {
                row[slot] = false;
            }
            for (int ticket = 0; ticket < tickets.count; ticket++) {
                boolean blocks = tickets.isActiveOf(ticket, party) || tickets.isActiveOf(ticket, other);
                if (blocks && ticket != except) {
                    int to = Math.min(tickets.end[ticket], row.length - 1);
                    for (int slot = Math.max(tickets.start[ticket], 0); slot <= to; slot++) {
                        row[slot] = true;
                    }
                }
            }
        }

        int returnsIn(int ride, int slot) {
            int persons = 0;
            for (int ticket = 0; ticket < tickets.count; ticket++) {
                boolean mayReturn = tickets.ride[ticket] == ride && tickets.state[ticket] == ACTIVE;
                if (mayReturn && tickets.covers(ticket, slot)) {
                    persons += sizeOfTicket(ticket);
                }
            }
            return persons;
        }

        boolean admit(int ticket) {
            int ride = tickets.ride[ticket];
            if (tickets.state[ticket] != ACTIVE || !tickets.covers(ticket, now) || rides.down[ride]) {
                return false;
            }
            joinMerge(ticket, ride);
            return true;
        }

        boolean admitOpen(int ticket, int ride) {
            if (tickets.state[ticket] != OPEN || !rides.runsIn(ride, now)) {
                return false;
            }
            joinMerge(ticket, ride);
            return true;
        }

        private void joinMerge(int ticket, int ride) {
            tickets.state[ticket] = USED;
            merge[ride].join(sizeOfTicket(ticket), now);
        }

        int putOnWaitlist(int party, int ride) {
            if (waitlists.positionOf(ride, party) != NONE || tickets.hasActive(party, ride)) {
                return DUPLICATE;
            }
            return waitlists.insert(ride, party, guests);
        }

        int putOnStandby(int ride, int size) {
            if (standby[ride].count >= MOST_STANDBY) {
                return FULL;
            }
            standby[ride].join(size, now);
            return standby[ride].count;
        }

        void pass() {
            for (int ride = 0; ride < rides.count; ride++) {
                if (rides.runsIn(ride, now)) {
                    board(ride);
                }
            }
            for (int ticket = 0; ticket < tickets.count; ticket++) {
                boolean waits = tickets.state[ticket] == ACTIVE && rides.down[tickets.ride[ticket]];
                if (waits && tickets.covers(ticket, now)) {
                    extend(ticket);
                }
            }
            for (int ticket = 0; ticket < tickets.count; ticket++) {
                if (tickets.state[ticket] == ACTIVE && tickets.end[ticket] == now) {
                    tickets.state[ticket] = EXPIRED;
                }
            }
            now++;
        }

        private void board(int ride) {
            int capacity = rides.capacity[ride];
            int early = boardFrom(merge[ride], ride, 0, rides.plannedIn(ride, now));
            int walkers = boardFrom(standby[ride], ride, early, capacity);
            int late = boardFrom(merge[ride], ride, early + walkers, capacity);
            rides.mergeBoarded[ride] += early + late;
            rides.standbyBoarded[ride] += walkers;
        }

        /** Boards groups of a line behind those on board already, up to so many in all; tells how many boarded. */
        private int boardFrom(Line line, int ride, int onBoard, int most) {
            int persons = 0;
            int groups = line.count;
            for (int k = 0; k < groups; k++) {
                if (onBoard + persons + line.size[0] > most) {
                    return persons;
                }
                persons += line.size[0];
                rides.noteGroup(ride, now - line.joined[0]);
                line.leaveFirst();
            }
            return persons;
        }

        private void extend(int ticket) {
            if (tickets.extension[ticket] < extensionLimit) {
                tickets.end[ticket]++;
                tickets.extension[ticket]++;
            } else {
                tickets.state[ticket] = OPEN;
            }
        }

        /** Boards on paper, slot by slot, until a group behind the standby line has its turn. */
        int waitOfNewGroup(int ride, int size) {
            if (rides.down[ride]) {
                return NONE;
            }
            int capacity = rides.capacity[ride];
            int merged = 0;
            int walked = 0;
            for (int slot = Math.max(now, rides.first[ride]); slot <= rides.last[ride]; slot++) {
                int early = merge[ride].fitting(merged, rides.plannedIn(ride, slot));
                int persons = merge[ride].personsIn(merged, early);
                merged += early;
                int walkers = standby[ride].fitting(walked, capacity - persons);
                persons += standby[ride].personsIn(walked, walkers);
                walked += walkers;
                if (walked == standby[ride].count && persons + size <= capacity) {
                    return slot - now;
                }
                merged += merge[ride].fitting(merged, capacity - persons);
            }
            return NONE;
        }
    }

    /** Finds windows, issues tickets and serves waitlists. */
    private static final class Desk {
        private final int[] free = new int[SLOTS];
        private final boolean[] taken = new boolean[SLOTS + MOST_LENGTH];

        int issueTo(Day day, int party, int ride, int earliest) {
            int start = startFor(day, party, ride, earliest);
            return start < 0 ? start : hand(day, party, ride, start);
        }

        int startFor(Day day, int party, int ride, int earliest) {
            int refusal = refusal(day, party, ride);
            if (refusal != ALLOWED) {
                return refusal;
            }
            if (day.tickets.count >= MOST_TICKETS) {
                return FULL;
            }
            day.fillFree(free, ride, NONE);
            day.fillTaken(taken, party, NONE, NONE);
            return firstStart(day, ride, day.guests.size[party], earliest, day.guests.horizonOf(party));
        }

        int issueToBoth(Day day, int party, int other, int ride, int earliest) {
            int refusal = refusal(day, party, ride);
            if (refusal == ALLOWED) {
                refusal = refusal(day, other, ride);
            }
            if (refusal != ALLOWED) {
                return refusal;
            }
            if (day.tickets.count > MOST_TICKETS - 2) {
                return FULL;
            }
            day.fillFree(free, ride, NONE);
            day.fillTaken(taken, party, other, NONE);
            int persons = day.guests.size[party] + day.guests.size[other];
            int horizon = Math.min(day.guests.horizonOf(party), day.guests.horizonOf(other));
            int start = firstStart(day, ride, persons, earliest, horizon);
            if (start < 0) {
                return start;
            }
            int ticket = hand(day, party, ride, start);
            hand(day, other, ride, start);
            return ticket;
        }

        int move(Day day, int ticket, int earliest) {
            if (day.tickets.state[ticket] != ACTIVE) {
                return NONE;
            }
            int party = day.tickets.party[ticket];
            int ride = day.tickets.ride[ticket];
            if (day.rides.down[ride]) {
                return RIDE_DOWN;
            }
            day.fillFree(free, ride, ticket);
            day.fillTaken(taken, party, NONE, ticket);
            int start = firstStart(day, ride, day.guests.size[party], earliest, day.guests.horizonOf(party));
            if (start < 0) {
                return start;
            }
            day.tickets.start[ticket] = start;
            day.tickets.end[ticket] = start + day.rides.length[ride] - 1;
            day.tickets.extension[ticket] = 0;
            serve(day, ride);
            return start;
        }

        int swap(Day day, int ticket, int ride, int earliest) {
            if (day.tickets.state[ticket] != ACTIVE) {
                return NONE;
            }
            if (day.rides.down[ride]) {
                return RIDE_DOWN;
            }
            int party = day.tickets.party[ticket];
            // The old ticket itself still counts here, so its own ride is a duplicate too.
            if (day.tickets.hasActive(party, ride)) {
                return DUPLICATE;
            }
            if (day.tickets.count >= MOST_TICKETS) {
                return FULL;
            }
            day.fillFree(free, ride, ticket);
            day.fillTaken(taken, party, NONE, ticket);
            int start = firstStart(day, ride, day.guests.size[party], earliest, day.guests.horizonOf(party));
            if (start < 0) {
                return start;
            }
            day.tickets.state[ticket] = CANCELLED;
            int fresh = hand(day, party, ride, start);
            serve(day, day.tickets.ride[ticket]);
            return fresh;
        }

        int giveBack(Day day, int ticket) {
            if (day.tickets.state[ticket] != ACTIVE) {
                return NONE;
            }
            day.tickets.state[ticket] = CANCELLED;
            return serve(day, day.tickets.ride[ticket]);
        }

        int putBack(Day day, int ride) {
            if (!day.rides.down[ride]) {
                return NONE;
            }
            day.rides.down[ride] = false;
            return serve(day, ride);
        }

        int changeShare(Day day, int ride, int share) {
            // Tickets are charged only to slots from the first to the last, and this would be planned there.
            int planned = day.rides.capacity[ride] * share / 100;
            day.fillFree(free, ride, NONE);
            for (int slot = day.now; slot < SLOTS; slot++) {
                if (chargedTo(day, ride, slot) > planned) {
                    return NOT_ALLOWED;
                }
            }
            day.rides.share[ride] = share;
            return serve(day, ride);
        }

        int freeIn(Day day, int ride, int slot) {
            day.fillFree(free, ride, NONE);
            return slot >= 0 && slot < SLOTS ? free[slot] : 0;
        }

        int freeFromNow(Day day, int ride) {
            day.fillFree(free, ride, NONE);
            int sum = 0;
            for (int slot = day.now; slot < SLOTS; slot++) {
                sum += free[slot];
            }
            return sum;
        }

        int slotOfMostCharged(Day day, int ride) {
            day.fillFree(free, ride, NONE);
            int peak = NONE;
            int most = 0;
            for (int slot = 0; slot < SLOTS; slot++) {
                int charged = chargedTo(day, ride, slot);
                if (charged > most) {
                    most = charged;
                    peak = slot;
                }
            }
            return peak;
        }

        /** What is charged to a slot of the ride for which the row free was filled. */
        private int chargedTo(Day day, int ride, int slot) {
            return day.rides.plannedIn(ride, slot) - free[slot];
        }

        private int refusal(Day day, int party, int ride) {
            if (day.rides.down[ride]) {
                return RIDE_DOWN;
            }
            if (day.tickets.hasActive(party, ride)) {
                return DUPLICATE;
            }
            boolean atLimit = day.tickets.countOf(party, ACTIVE) >= day.guests.limitOf(party);
            if (atLimit || day.guests.mustPause(party, day.now)) {
                return NOT_ALLOWED;
            }
            return ALLOWED;
        }

        private int firstStart(Day day, int ride, int persons, int earliest, int horizon) {
            int from = Math.max(earliest, day.now);
            int to = Math.min(day.rides.last[ride], day.now + horizon);
            for (int start = from; start <= to; start++) {
                if (free[start] >= persons && isClear(taken, start, day.rides.length[ride])) {
                    return start;
                }
            }
            return NO_WINDOW;
        }

        private int hand(Day day, int party, int ride, int start) {
            int end = start + day.rides.length[ride] - 1;
            day.guests.lastIssue[party] = day.now;
            day.waitlists.remove(ride, party);
            return day.tickets.addTicket(party, ride, start, end);
        }

        private int serve(Day day, int ride) {
            int waiting = day.waitlists.count[ride];
            int position = 0;
            int issued = 0;
            for (int k = 0; k < waiting; k++) {
                int party = day.waitlists.party[ride][position];
                // With a ticket the party leaves the list, and the next one moves up to its position.
                int start = startFor(day, party, ride, day.now);
                if (start >= 0) {
                    hand(day, party, ride, start);
                    issued++;
                } else {
                    position++;
                }
            }
            return issued;
        }
    }

    private static boolean isClear(boolean[] taken, int start, int length) {
        for (int slot = start; slot < start + length; slot++) {
            if (slot < 0 || slot >= taken.length || taken[slot]) {
                return false;
            }
        }
        return true;
    }

    /** Answers what would be best; nothing is issued here. */
    private static final class Planner {
        private final int[] free = new int[SLOTS];
        private final boolean[] taken = new boolean[SLOTS + MOST_LENGTH];
        private final int[][] nextStart = new int[MOST_RIDES][SLOTS];
        private final int[] order = new int[MOST_PLANNED];
        final int[] best = new int[MOST_PLANNED];
        int bestEnd;
        private final int[] latest = new int[MOST_CONSIDERED];
        private final int[] persons = new int[1 << MOST_CONSIDERED];
        private final boolean[] fits = new boolean[1 << MOST_CONSIDERED];

        /** Leaves the best order in best and its end in bestEnd, NONE if there is no order. */
        void plan(Day day, int party, int rides) {
            day.fillTaken(taken, party, NONE, NONE);
            for (int ride = 0; ride < day.rides.count; ride++) {
                if ((rides & 1 << ride) != 0) {
                    fillNextStart(day, ride, day.guests.size[party]);
                }
            }
            bestEnd = NONE;
            explore(day, rides, 0, day.now);
        }

        private void fillNextStart(Day day, int ride, int size) {
            day.fillFree(free, ride, NONE);
            int next = NONE;
            for (int slot = LAST_SLOT; slot >= 0; slot--) {
                boolean roomy = slot <= day.rides.last[ride] && free[slot] >= size;
                if (roomy && isClear(taken, slot, day.rides.length[ride])) {
                    next = slot;
                }
                nextStart[ride][slot] = next;
            }
        }

        /** Tries the orders of the rides that are left, smallest first, so that the first of equal ends is kept. */
        private void explore(Day day, int left, int depth, int from) {
            if (left == 0) {
                if (bestEnd == NONE || from - 1 < bestEnd) {
                    bestEnd = from - 1;
                    System.arraycopy(order, 0, best, 0, MOST_PLANNED);
                }
                return;
            }
            if (depth >= MOST_PLANNED || from < 0 || from >= SLOTS) {
                return;
            }
            for (int ride = 0; ride < day.rides.count; ride++) {
                if ((left & 1 << ride) != 0 && nextStart[ride][from] != NONE) {
                    order[depth] = ride;
                    int behind = nextStart[ride][from] + day.rides.length[ride];
                    explore(day, left & ~(1 << ride), depth + 1, behind);
                }
            }
        }

        /** The largest set of waiting parties that could get windows at once; of equal ones the smallest mask. */
        int largestSet(Day day, int ride) {
            int considered = Math.min(day.waitlists.count[ride], MOST_CONSIDERED);
            int all = (1 << considered) - 1;
            readyParties(day, ride, considered);
            day.fillFree(free, ride, NONE);
            for (int slot = day.now; slot <= day.rides.last[ride] && !fits[all]; slot++) {
                if (counts(day.now, slot, considered)) {
                    fillSlot(slot, considered);
                }
            }
            int largest = 0;
            for (int set = 1; set <= all; set++) {
                if (fits[set] && Integer.bitCount(set) > Integer.bitCount(largest)) {
                    largest = set;
                }
            }
            return largest;
        }

        private void readyParties(Day day, int ride, int considered) {
            persons[0] = 0;
            fits[0] = true;
            for (int k = 0; k < considered; k++) {
                int party = day.waitlists.party[ride][k];
                latest[k] = day.now + day.guests.horizonOf(party);
                for (int set = 1 << k; set < 2 << k; set++) {
                    persons[set] = persons[set - (1 << k)] + day.guests.size[party];
                    fits[set] = false;
                }
            }
        }

        /**
         * A slot can be left out if as many earlier ones as there are parties have no less room: who may come
         * later may come earlier too, and one of those slots is always empty. This spares most slots.
         */
        private boolean counts(int now, int slot, int considered) {
            int better = 0;
            for (int earlier = now; earlier < slot; earlier++) {
                if (free[earlier] >= free[slot]) {
                    better++;
                }
            }
            return better < considered;
        }

        /** Adds the sets that fit with the help of one more slot, the largest first, as they rest on smaller ones. */
        private void fillSlot(int slot, int considered) {
            int inTime = 0;
            for (int k = 0; k < considered; k++) {
                if (slot <= latest[k]) {
                    inTime |= 1 << k;
                }
            }
            for (int set = (1 << considered) - 1; set > 0; set--) {
                int within = set & inTime;
                for (int part = within; part > 0 && !fits[set]; part = part - 1 & within) {
                    fits[set] = persons[part] <= free[slot] && fits[set ^ part];
                }
            }
        }
    }

    /** The input buffer, with the token that was read last and the error of the last reading. */
    private static final class Input {
        static final int SYNTAX = 1;
        static final int RANGE = 2;
        static final int LIMIT = 3;
        private static final int END = 0;
        private static final int WORD = 1;
        private static final int NUMBER = 2;
        private static final int SEMICOLON = 3;
        private static final int NO_TOKEN = 4;
        private static final int MOST_LETTERS = 10;
        private static final int MOST_DIGITS = 5;

        private final byte[] text = new byte[MOST_INPUT];
        int length;
        private int position;
        private int start;
        private int kind;
        private int value;
        int errorCode;
        int errorPosition = NONE;

        void put(int word) {
            if (length + 4 <= MOST_INPUT) {
                text[length] = (byte) (word >> 24);
                text[length + 1] = (byte) (word >> 16);
                text[length + 2] = (byte) (word >> 8);
                text[length + 3] = (byte) word;
                length += 4;
            }
        }

        void rewind() {
            position = 0;
            errorCode = 0;
            errorPosition = NONE;
        }

        boolean failed() {
            return errorCode != 0;
        }

        /** Reports an error at the last token, unless there was one before. */
        void fail(int code) {
            if (errorCode == 0) {
                errorCode = code;
                errorPosition = start;
            }
        }

        /** Reads the first token of a statement or entry; tells whether there is one, also a wrong one. */
        boolean hasNext() {
            readToken();
            return kind != END;
        }

        boolean isWord(String word) {
            if (kind != WORD || position - start != word.length()) {
                return false;
            }
            for (int k = 0; k < word.length(); k++) {
                if (text[start + k] != word.charAt(k)) {
                    return false;
                }
            }
            return true;
        }

        void readWord() {
            if (!failed()) {
                readToken();
            }
        }

        int readNumber(int least, int most) {
            if (failed()) {
                return least;
            }
            readToken();
            if (kind != NUMBER) {
                fail(SYNTAX);
            } else if (value < least || value > most) {
                fail(RANGE);
            }
            return value;
        }

        void readSemicolon() {
            if (!failed()) {
                readToken();
                if (kind != SEMICOLON) {
                    fail(SYNTAX);
                }
            }
        }

        private void readToken() {
            while (position < length && (text[position] == ' ' || text[position] == '\n')) {
                position++;
            }
            start = position;
            if (position >= length) {
                kind = END;
                return;
            }
            byte sign = text[position];
            if (sign >= 'a' && sign <= 'z') {
                passLetters();
            } else if (sign >= '0' && sign <= '9') {
                passDigits();
            } else {
                kind = sign == ';' ? SEMICOLON : NO_TOKEN;
                position++;
            }
        }

        private void passLetters() {
            while (position < length && text[position] >= 'a' && text[position] <= 'z') {
                position++;
            }
            kind = position - start <= MOST_LETTERS ? WORD : NO_TOKEN;
        }

        private void passDigits() {
            value = 0;
            while (position < length && text[position] >= '0' && text[position] <= '9') {
                value = value * 10 + text[position] - '0';
                position++;
            }
            kind = position - start <= MOST_DIGITS ? NUMBER : NO_TOKEN;
        }
    }

    /** A park as it is read; it counts only if its whole text has no error. */
    private static final class ParkDraft {
        final Rides rides = new Rides();
        final Guests guests = new Guests();
        int extensionLimit;

        int read(Input input) {
            rides.count = 0;
            guests.tierCount = 0;
            guests.count = 0;
            extensionLimit = USUAL_EXTENSION;
            input.rewind();
            int statements = 0;
            while (statements < MOST_INPUT && !input.failed() && input.hasNext()) {
                readStatement(input);
                statements++;
            }
            return statements;
        }

        private void readStatement(Input input) {
            if (input.isWord("ride")) {
                readRide(input);
            } else if (input.isWord("tier")) {
                readTier(input);
            } else if (input.isWord("party")) {
                readParty(input);
            } else if (input.isWord("extension")) {
                extensionLimit = input.readNumber(0, MOST_EXTENSION);
                input.readSemicolon();
            } else {
                input.fail(Input.SYNTAX);
            }
        }

        private void readRide(Input input) {
            if (rides.count >= MOST_RIDES) {
                input.fail(Input.LIMIT);
            }
            int capacity = input.readNumber(1, 200);
            int share = input.readNumber(0, MOST_SHARE);
            int length = input.readNumber(1, MOST_LENGTH);
            int first = input.readNumber(0, LAST_SLOT);
            int last = input.readNumber(first, LAST_SLOT);
            input.readSemicolon();
            if (!input.failed()) {
                rides.addRide(capacity, share, length, first, last);
            }
        }

        private void readTier(Input input) {
            if (guests.tierCount >= MOST_TIERS) {
                input.fail(Input.LIMIT);
            }
            int limit = input.readNumber(1, 5);
            int horizon = input.readNumber(1, SLOTS);
            int pause = input.readNumber(0, 48);
            int rank = input.readNumber(0, 9);
            input.readSemicolon();
            if (!input.failed()) {
                guests.addTier(limit, horizon, pause, rank);
            }
        }

        private void readParty(Input input) {
            if (guests.count >= MOST_PARTIES) {
                input.fail(Input.LIMIT);
            }
            int tier = input.readNumber(0, guests.tierCount - 1);
            int size = input.readNumber(1, MOST_PERSONS);
            input.readSemicolon();
            if (!input.failed()) {
                guests.addGuests(tier, size);
            }
        }
    }

    /** The entries of a script; those before next have been executed or dropped. */
    private static final class Script {
        static final int ISSUE = 0;
        static final int REDEEM = 1;
        static final int CANCEL = 2;
        static final int WAIT = 3;
        static final int STANDBY = 4;
        static final int BREAK = 5;
        static final int REPAIR = 6;

        final int[] slot = new int[MOST_ENTRIES];
        final int[] action = new int[MOST_ENTRIES];
        final int[] first = new int[MOST_ENTRIES];
        final int[] second = new int[MOST_ENTRIES];
        final int[] third = new int[MOST_ENTRIES];
        int count;
        int next;

        int left() {
            return count - next;
        }

        void dropBefore(int now) {
            while (next < count && slot[next] < now) {
                next++;
            }
        }

        boolean isDue(int now) {
            return next < count && slot[next] == now;
        }

        int take() {
            next++;
            return next - 1;
        }

        void clear() {
            count = 0;
            next = 0;
        }

        void copyFrom(Script other) {
            System.arraycopy(other.slot, 0, slot, 0, MOST_ENTRIES);
            System.arraycopy(other.action, 0, action, 0, MOST_ENTRIES);
            System.arraycopy(other.first, 0, first, 0, MOST_ENTRIES);
            System.arraycopy(other.second, 0, second, 0, MOST_ENTRIES);
            System.arraycopy(other.third, 0, third, 0, MOST_ENTRIES);
            count = other.count;
            next = other.next;
        }

        void read(Input input) {
            clear();
            input.rewind();
            int entries = 0;
            while (entries < MOST_INPUT && !input.failed() && input.hasNext()) {
                readEntry(input);
                entries++;
            }
        }

        private void readEntry(Input input) {
            if (!input.isWord("at")) {
                input.fail(Input.SYNTAX);
                return;
            }
            if (count >= MOST_ENTRIES) {
                input.fail(Input.LIMIT);
                return;
            }
            slot[count] = input.readNumber(count == 0 ? 0 : slot[count - 1], LAST_SLOT);
            input.readWord();
            readAction(input);
            input.readSemicolon();
            if (!input.failed()) {
                count++;
            }
        }

        private void readAction(Input input) {
            if (input.isWord("issue")) {
                action[count] = ISSUE;
                first[count] = input.readNumber(0, MOST_PARTIES - 1);
                second[count] = input.readNumber(0, MOST_RIDES - 1);
                third[count] = input.readNumber(0, LAST_SLOT);
            } else if (input.isWord("redeem")) {
                action[count] = REDEEM;
                first[count] = input.readNumber(0, MOST_TICKETS - 1);
            } else if (input.isWord("cancel")) {
                action[count] = CANCEL;
                first[count] = input.readNumber(0, MOST_TICKETS - 1);
            } else if (input.isWord("wait")) {
                action[count] = WAIT;
                first[count] = input.readNumber(0, MOST_PARTIES - 1);
                second[count] = input.readNumber(0, MOST_RIDES - 1);
            } else if (input.isWord("standby")) {
                action[count] = STANDBY;
                first[count] = input.readNumber(0, MOST_RIDES - 1);
                second[count] = input.readNumber(1, MOST_PERSONS);
            } else if (input.isWord("break")) {
                action[count] = BREAK;
                first[count] = input.readNumber(0, MOST_RIDES - 1);
            } else if (input.isWord("repair")) {
                action[count] = REPAIR;
                first[count] = input.readNumber(0, MOST_RIDES - 1);
            } else {
                input.fail(Input.SYNTAX);
            }
        }
    }
}
