import java.util.ArrayList;
import java.util.List;

/** The document once more, in the plainest way and without care for time and room; ModelTest compares with it. */
final class Model {
    static final int NONE = -1;
    static final int NOT_ALLOWED = -2;
    static final int DUPLICATE = -3;
    static final int NO_WINDOW = -4;
    static final int RIDE_DOWN = -5;
    static final int FULL = -6;
    static final int TEXT_ERROR = -7;

    enum State { ACTIVE, USED, EXPIRED, CANCELLED, OPEN }

    static final class Ride {
        int capacity, share, length, first, last;
        boolean down;
        List<Integer> waitlist = new ArrayList<>();
        List<Group> merge = new ArrayList<>();
        List<Group> standby = new ArrayList<>();
        int fromMerge, fromStandby;
        List<Integer> waits = new ArrayList<>();

        Ride copy() {
            Ride r = new Ride();
            r.capacity = capacity;
            r.share = share;
            r.length = length;
            r.first = first;
            r.last = last;
            r.down = down;
            r.waitlist = new ArrayList<>(waitlist);
            r.merge = new ArrayList<>(merge);
            r.standby = new ArrayList<>(standby);
            r.fromMerge = fromMerge;
            r.fromStandby = fromStandby;
            r.waits = new ArrayList<>(waits);
            return r;
        }

        int planned(int slot) {
            return slot < first || slot > last ? 0 : capacity * share / 100;
        }
    }

    record Group(int size, int joined, boolean isProbe) { }

    record Tier(int limit, int horizon, int pause, int rank) { }

    static final class Party {
        int tier, size;
        Integer lastIssue;
    }

    static final class Ticket {
        int party, ride, start, end, extension;
        State state = State.ACTIVE;

        Ticket copy() {
            Ticket t = new Ticket();
            t.party = party;
            t.ride = ride;
            t.start = start;
            t.end = end;
            t.extension = extension;
            t.state = state;
            return t;
        }
    }

    static final class World {
        int now = 0;
        int limit = 6;
        List<Ride> rides = new ArrayList<>();
        List<Tier> tiers = new ArrayList<>();
        List<Party> parties = new ArrayList<>();
        List<Ticket> tickets = new ArrayList<>();

        World copy() {
            World w = new World();
            w.now = now;
            w.limit = limit;
            for (Ride r : rides) {
                w.rides.add(r.copy());
            }
            w.tiers.addAll(tiers);
            for (Party p : parties) {
                Party c = new Party();
                c.tier = p.tier;
                c.size = p.size;
                c.lastIssue = p.lastIssue;
                w.parties.add(c);
            }
            for (Ticket t : tickets) {
                w.tickets.add(t.copy());
            }
            return w;
        }
    }

    record Entry(int slot, String action, int[] numbers) { }

    World w = new World();
    World[] snapshots = new World[2];
    List<Entry> script = new ArrayList<>();
    String buffer = "";
    String text = null;
    int errorCode = 0;
    int errorPosition = NONE;

    // ---- input ----

    int appendInput(int... words) {
        if (buffer.length() + 20 > 1500) {
            return NONE;
        }
        StringBuilder b = new StringBuilder(buffer);
        for (int word : words) {
            for (int shift = 24; shift >= 0; shift -= 8) {
                b.append((char) (word >>> shift & 255));
            }
        }
        buffer = b.toString();
        return buffer.length();
    }

    int truncateInput(int length) {
        if (length < 0 || length > buffer.length()) {
            return NONE;
        }
        buffer = buffer.substring(0, length);
        return length;
    }

    static final class Wrong extends Exception {
        private static final long serialVersionUID = 1;
        final int code, position;

        Wrong(int code, int position) {
            this.code = code;
            this.position = position;
        }
    }

    /** Tokens by regular expressions; what is none is a token of its own that is allowed nowhere. */
    static final class Tokens {
        final List<String> texts = new ArrayList<>();
        final List<Integer> places = new ArrayList<>();
        int at = 0;

        Tokens(String buffer) {
            java.util.regex.Matcher m = java.util.regex.Pattern.compile("[a-z]+|[0-9]+|;|[^ \\n]").matcher(buffer);
            while (m.find()) {
                texts.add(m.group());
                places.add(m.start());
            }
            places.add(buffer.length());
        }

        boolean more() {
            return at < texts.size();
        }

        int place() {
            return places.get(at);
        }

        String word() throws Wrong {
            if (!more() || !texts.get(at).matches("[a-z]{1,10}")) {
                throw new Wrong(1, place());
            }
            return texts.get(at);
        }

        int number(int least, int most) throws Wrong {
            if (!more() || !texts.get(at).matches("[0-9]{1,5}")) {
                throw new Wrong(1, place());
            }
            int n = Integer.parseInt(texts.get(at));
            if (n < least || n > most) {
                throw new Wrong(2, place());
            }
            at++;
            return n;
        }

        void semicolon() throws Wrong {
            if (!more() || !texts.get(at).equals(";")) {
                throw new Wrong(1, place());
            }
            at++;
        }
    }

    int loadPark() {
        Tokens t = new Tokens(buffer);
        buffer = "";
        errorCode = 0;
        errorPosition = NONE;
        World n = new World();
        int statements = 0;
        try {
            while (t.more()) {
                String word = t.word();
                int max = word.equals("ride") ? 8 : word.equals("tier") ? 4 : 50;
                int has = word.equals("ride") ? n.rides.size() : word.equals("tier") ? n.tiers.size() : n.parties.size();
                if (List.of("ride", "tier", "party").contains(word) && has == max) {
                    throw new Wrong(3, t.place());
                }
                if (!List.of("ride", "tier", "party", "extension").contains(word)) {
                    throw new Wrong(1, t.place());
                }
                t.at++;
                switch (word) {
                    case "ride" -> {
                        Ride r = new Ride();
                        r.capacity = t.number(1, 200);
                        r.share = t.number(0, 100);
                        r.length = t.number(1, 24);
                        r.first = t.number(0, 143);
                        r.last = t.number(r.first, 143);
                        n.rides.add(r);
                    }
                    case "tier" -> n.tiers.add(new Tier(t.number(1, 5), t.number(1, 144), t.number(0, 48), t.number(0, 9)));
                    case "party" -> {
                        Party p = new Party();
                        p.tier = t.number(0, n.tiers.size() - 1);
                        p.size = t.number(1, 12);
                        n.parties.add(p);
                    }
                    default -> n.limit = t.number(0, 48);
                }
                t.semicolon();
                statements++;
            }
        } catch (Wrong e) {
            errorCode = e.code;
            errorPosition = e.position;
            return TEXT_ERROR;
        }
        w = n;
        snapshots = new World[2];
        script = new ArrayList<>();
        return statements;
    }

    int loadScript() {
        Tokens t = new Tokens(buffer);
        buffer = "";
        errorCode = 0;
        errorPosition = NONE;
        List<Entry> entries = new ArrayList<>();
        try {
            int slot = 0;
            while (t.more()) {
                if (!t.word().equals("at")) {
                    throw new Wrong(1, t.place());
                }
                if (entries.size() == 40) {
                    throw new Wrong(3, t.place());
                }
                t.at++;
                slot = t.number(slot, 143);
                String action = t.word();
                int place = t.place();
                t.at++;
                int[] numbers = switch (action) {
                    case "issue" -> new int[] {t.number(0, 49), t.number(0, 7), t.number(0, 143)};
                    case "redeem", "cancel" -> new int[] {t.number(0, 149)};
                    case "wait" -> new int[] {t.number(0, 49), t.number(0, 7)};
                    case "standby" -> new int[] {t.number(0, 7), t.number(1, 12)};
                    case "break", "repair" -> new int[] {t.number(0, 7)};
                    default -> throw new Wrong(1, place);
                };
                t.semicolon();
                entries.add(new Entry(slot, action, numbers));
            }
        } catch (Wrong e) {
            errorCode = e.code;
            errorPosition = e.position;
            return TEXT_ERROR;
        }
        script = entries;
        return entries.size();
    }

    // ---- checks of arguments ----

    void index(int index, List<?> list) {
        if (index < 0 || index >= list.size()) {
            throw new IndexOutOfBoundsException();
        }
    }

    void range(int value, int least, int most) {
        if (value < least || value > most) {
            throw new IllegalArgumentException();
        }
    }

    // ---- park ----

    int addParty(int tier, int size) {
        index(tier, w.tiers);
        range(size, 1, 12);
        if (w.parties.size() == 50) {
            return FULL;
        }
        Party p = new Party();
        p.tier = tier;
        p.size = size;
        w.parties.add(p);
        return w.parties.size() - 1;
    }

    int planned(int ride, int slot) {
        index(ride, w.rides);
        range(slot, 0, 143);
        return w.rides.get(ride).planned(slot);
    }

    int remaining(int ride, int slot) {
        index(ride, w.rides);
        range(slot, 0, 143);
        return left(ride, slot, null);
    }

    int left(int ride, int slot, Ticket except) {
        int left = w.rides.get(ride).planned(slot);
        for (Ticket t : w.tickets) {
            if (t != except && t.ride == ride && t.start == slot && t.state != State.CANCELLED) {
                left -= w.parties.get(t.party).size;
            }
        }
        return left;
    }

    // ---- tickets ----

    boolean hasActive(int party, int ride) {
        return w.tickets.stream().anyMatch(t -> t.party == party && t.ride == ride && t.state == State.ACTIVE);
    }

    int checks(int party, int ride) {
        Party p = w.parties.get(party);
        Tier tier = w.tiers.get(p.tier);
        if (w.rides.get(ride).down) {
            return RIDE_DOWN;
        }
        if (hasActive(party, ride)) {
            return DUPLICATE;
        }
        if (w.tickets.stream().filter(t -> t.party == party && t.state == State.ACTIVE).count() == tier.limit) {
            return NOT_ALLOWED;
        }
        if (p.lastIssue != null && w.now - p.lastIssue < tier.pause) {
            return NOT_ALLOWED;
        }
        return 0;
    }

    boolean meets(int party, int from, int to, Ticket except) {
        for (Ticket t : w.tickets) {
            if (t == except || t.party != party || t.state != State.ACTIVE) {
                continue;
            }
            for (int s = from; s <= to; s++) {
                if (s >= t.start && s <= t.end) {
                    return true;
                }
            }
        }
        return false;
    }

    int window(List<Integer> parties, int ride, int earliest, boolean horizon, Ticket except) {
        Ride r = w.rides.get(ride);
        for (int s = 0; s < 144; s++) {
            boolean good = s >= earliest && s >= w.now && s <= r.last;
            int size = 0;
            for (int party : parties) {
                Party p = w.parties.get(party);
                size += p.size;
                good &= !horizon || s <= w.now + w.tiers.get(p.tier).horizon;
                good &= !meets(party, s, s + r.length - 1, except);
            }
            if (good && left(ride, s, except) >= size) {
                return s;
            }
        }
        return NO_WINDOW;
    }

    int hand(int party, int ride, int start) {
        Ticket t = new Ticket();
        t.party = party;
        t.ride = ride;
        t.start = start;
        t.end = start + w.rides.get(ride).length - 1;
        w.tickets.add(t);
        w.parties.get(party).lastIssue = w.now;
        w.rides.get(ride).waitlist.remove((Integer) party);
        return w.tickets.size() - 1;
    }

    int nextWindow(int party, int ride, int earliest) {
        index(party, w.parties);
        index(ride, w.rides);
        range(earliest, 0, 143);
        return next(party, ride, earliest);
    }

    private int next(int party, int ride, int earliest) {
        int check = checks(party, ride);
        if (check != 0) {
            return check;
        }
        if (w.tickets.size() == 150) {
            return FULL;
        }
        return window(List.of(party), ride, earliest, true, null);
    }

    int issue(int party, int ride, int earliest) {
        int start = nextWindow(party, ride, earliest);
        return start < 0 ? start : hand(party, ride, start);
    }

    int issueJoint(int party, int other, int ride, int earliest) {
        index(party, w.parties);
        index(other, w.parties);
        index(ride, w.rides);
        if (party == other) {
            throw new IllegalArgumentException();
        }
        range(earliest, 0, 143);
        int check = checks(party, ride);
        if (check != 0) {
            return check;
        }
        check = checks(other, ride);
        if (check != 0) {
            return check;
        }
        if (w.tickets.size() > 148) {
            return FULL;
        }
        int start = window(List.of(party, other), ride, earliest, true, null);
        if (start < 0) {
            return start;
        }
        hand(party, ride, start);
        return hand(other, ride, start) - 1;
    }

    int serve(int ride) {
        int issued = 0;
        for (int party : new ArrayList<>(w.rides.get(ride).waitlist)) {
            int start = next(party, ride, w.now);
            if (start >= 0) {
                hand(party, ride, start);
                issued++;
            }
        }
        return issued;
    }

    int moveTicket(int ticket, int earliest) {
        index(ticket, w.tickets);
        range(earliest, 0, 143);
        Ticket t = w.tickets.get(ticket);
        if (t.state != State.ACTIVE) {
            return NONE;
        }
        if (w.rides.get(t.ride).down) {
            return RIDE_DOWN;
        }
        int start = window(List.of(t.party), t.ride, earliest, true, t);
        if (start < 0) {
            return start;
        }
        t.start = start;
        t.end = start + w.rides.get(t.ride).length - 1;
        t.extension = 0;
        serve(t.ride);
        return start;
    }

    int exchange(int ticket, int ride, int earliest) {
        index(ticket, w.tickets);
        index(ride, w.rides);
        range(earliest, 0, 143);
        Ticket t = w.tickets.get(ticket);
        if (t.state != State.ACTIVE) {
            return NONE;
        }
        if (w.rides.get(ride).down) {
            return RIDE_DOWN;
        }
        if (ride == t.ride || hasActive(t.party, ride)) {
            return DUPLICATE;
        }
        if (w.tickets.size() == 150) {
            return FULL;
        }
        int start = window(List.of(t.party), ride, earliest, true, t);
        if (start < 0) {
            return start;
        }
        t.state = State.CANCELLED;
        int fresh = hand(t.party, ride, start);
        serve(t.ride);
        return fresh;
    }

    int cancel(int ticket) {
        index(ticket, w.tickets);
        Ticket t = w.tickets.get(ticket);
        if (t.state != State.ACTIVE) {
            return NONE;
        }
        t.state = State.CANCELLED;
        return serve(t.ride);
    }

    boolean redeem(int ticket) {
        index(ticket, w.tickets);
        Ticket t = w.tickets.get(ticket);
        if (t.state != State.ACTIVE || w.now < t.start || w.now > t.end || w.rides.get(t.ride).down) {
            return false;
        }
        t.state = State.USED;
        w.rides.get(t.ride).merge.add(new Group(w.parties.get(t.party).size, w.now, false));
        return true;
    }

    boolean operating(Ride r, int slot) {
        return !r.down && slot >= r.first && slot <= r.last;
    }

    boolean redeemOpen(int ticket, int ride) {
        index(ticket, w.tickets);
        index(ride, w.rides);
        Ticket t = w.tickets.get(ticket);
        Ride r = w.rides.get(ride);
        if (t.state != State.OPEN || !operating(r, w.now)) {
            return false;
        }
        t.state = State.USED;
        r.merge.add(new Group(w.parties.get(t.party).size, w.now, false));
        return true;
    }

    Ticket ticket(int ticket) {
        index(ticket, w.tickets);
        return w.tickets.get(ticket);
    }

    int countTickets(int party, int state) {
        index(party, w.parties);
        range(state, 0, 4);
        return (int) w.tickets.stream().filter(t -> t.party == party && t.state.ordinal() == state).count();
    }

    List<Integer> activeOf(int party) {
        List<Integer> all = new ArrayList<>();
        for (int k = 0; k < w.tickets.size(); k++) {
            if (w.tickets.get(k).party == party && w.tickets.get(k).state == State.ACTIVE) {
                all.add(k);
            }
        }
        all.sort((a, b) -> w.tickets.get(a).start - w.tickets.get(b).start);
        return all;
    }

    int itinerary(int party, int index) {
        index(party, w.parties);
        List<Integer> all = activeOf(party);
        return index < 0 || index >= all.size() ? NONE : all.get(index);
    }

    // ---- waitlists and lines ----

    int joinWaitlist(int party, int ride) {
        index(party, w.parties);
        index(ride, w.rides);
        List<Integer> list = w.rides.get(ride).waitlist;
        if (list.contains(party) || hasActive(party, ride)) {
            return DUPLICATE;
        }
        list.add(party);
        list.sort((a, b) -> w.tiers.get(w.parties.get(a).tier).rank - w.tiers.get(w.parties.get(b).tier).rank);
        return list.indexOf(party);
    }

    boolean leaveWaitlist(int party, int ride) {
        index(party, w.parties);
        index(ride, w.rides);
        return w.rides.get(ride).waitlist.remove((Integer) party);
    }

    int waitlistAt(int ride, int index) {
        index(ride, w.rides);
        List<Integer> list = w.rides.get(ride).waitlist;
        return index < 0 || index >= list.size() ? NONE : list.get(index);
    }

    int joinStandby(int ride, int size) {
        index(ride, w.rides);
        range(size, 1, 12);
        List<Group> line = w.rides.get(ride).standby;
        if (line.size() == 60) {
            return FULL;
        }
        line.add(new Group(size, w.now, false));
        return line.size();
    }

    int persons(int ride, boolean merge) {
        index(ride, w.rides);
        List<Group> line = merge ? w.rides.get(ride).merge : w.rides.get(ride).standby;
        return line.stream().mapToInt(Group::size).sum();
    }

    // ---- time ----

    /** Boards the groups of one slot; tells whether the probe of a forecast was among them. */
    boolean board(Ride r, int slot) {
        boolean probe = false;
        int on = 0;
        while (!r.merge.isEmpty() && on + r.merge.get(0).size <= r.planned(slot)) {
            Group g = r.merge.remove(0);
            on += g.size;
            r.fromMerge += g.size;
            r.waits.add(slot - g.joined);
        }
        while (!r.standby.isEmpty() && on + r.standby.get(0).size <= r.capacity) {
            Group g = r.standby.remove(0);
            on += g.size;
            r.fromStandby += g.size;
            r.waits.add(slot - g.joined);
            probe |= g.isProbe;
        }
        while (!r.merge.isEmpty() && on + r.merge.get(0).size <= r.capacity) {
            Group g = r.merge.remove(0);
            on += g.size;
            r.fromMerge += g.size;
            r.waits.add(slot - g.joined);
        }
        return probe;
    }

    void pass() {
        for (Ride r : w.rides) {
            if (operating(r, w.now)) {
                board(r, w.now);
            }
        }
        for (Ticket t : w.tickets) {
            if (t.state == State.ACTIVE && w.rides.get(t.ride).down && t.start <= w.now && w.now <= t.end) {
                if (t.extension < w.limit) {
                    t.end++;
                    t.extension++;
                } else {
                    t.state = State.OPEN;
                }
            }
        }
        for (Ticket t : w.tickets) {
            if (t.state == State.ACTIVE && t.end == w.now) {
                t.state = State.EXPIRED;
            }
        }
        w.now++;
    }

    void slotsLeft(int slots) {
        range(slots, 1, 144);
        range(w.now + slots, 0, 144);
    }

    int advance(int slots) {
        slotsLeft(slots);
        for (int k = 0; k < slots; k++) {
            pass();
        }
        return w.now;
    }

    int runScript(int slots) {
        slotsLeft(slots);
        int succeeded = 0;
        for (int k = 0; k < slots; k++) {
            while (!script.isEmpty() && script.get(0).slot <= w.now) {
                Entry e = script.remove(0);
                if (e.slot == w.now && succeeds(e.action, e.numbers)) {
                    succeeded++;
                }
            }
            pass();
        }
        return succeeded;
    }

    boolean succeeds(String action, int[] n) {
        try {
            return switch (action) {
                case "issue" -> issue(n[0], n[1], n[2]) >= 0;
                case "redeem" -> redeem(n[0]);
                case "cancel" -> cancel(n[0]) >= 0;
                case "wait" -> joinWaitlist(n[0], n[1]) >= 0;
                case "standby" -> joinStandby(n[0], n[1]) >= 0;
                case "break" -> breakDown(n[0]);
                default -> repair(n[0]) >= 0;
            };
        } catch (IndexOutOfBoundsException | IllegalArgumentException e) {
            return false;
        }
    }

    boolean isDown(int ride) {
        index(ride, w.rides);
        return w.rides.get(ride).down;
    }

    boolean breakDown(int ride) {
        index(ride, w.rides);
        boolean was = w.rides.get(ride).down;
        w.rides.get(ride).down = true;
        return !was;
    }

    int repair(int ride) {
        index(ride, w.rides);
        if (!w.rides.get(ride).down) {
            return NONE;
        }
        w.rides.get(ride).down = false;
        return serve(ride);
    }

    int setShare(int ride, int share) {
        index(ride, w.rides);
        range(share, 0, 100);
        Ride r = w.rides.get(ride);
        int old = r.share;
        r.share = share;
        for (int s = w.now; s < 144; s++) {
            if (left(ride, s, null) < 0) {
                r.share = old;
                return NOT_ALLOWED;
            }
        }
        return serve(ride);
    }

    boolean setExtensionLimit(int limit) {
        if (limit < 0 || limit > 48) {
            return false;
        }
        w.limit = limit;
        return true;
    }

    // ---- queries ----

    int boarded(int ride, boolean merge) {
        index(ride, w.rides);
        return merge ? w.rides.get(ride).fromMerge : w.rides.get(ride).fromStandby;
    }

    double averageWait(int ride) {
        index(ride, w.rides);
        List<Integer> waits = w.rides.get(ride).waits;
        if (waits.isEmpty()) {
            throw new ArithmeticException();
        }
        return (double) waits.stream().mapToInt(x -> x).sum() / waits.size();
    }

    int longestWait(int ride) {
        index(ride, w.rides);
        return w.rides.get(ride).waits.stream().mapToInt(x -> x).max().orElse(0);
    }

    int forecastStandby(int ride, int size) {
        index(ride, w.rides);
        range(size, 1, 12);
        Ride r = w.rides.get(ride).copy();
        r.standby.add(new Group(size, w.now, true));
        for (int s = w.now; s < 144; s++) {
            if (operating(r, s) && board(r, s)) {
                return s - w.now;
            }
        }
        return NONE;
    }

    int expectedReturns(int ride, int slot) {
        index(ride, w.rides);
        range(slot, 0, 143);
        int sum = 0;
        for (Ticket t : w.tickets) {
            if (t.state == State.ACTIVE && t.ride == ride && t.start <= slot && slot <= t.end) {
                sum += w.parties.get(t.party).size;
            }
        }
        return sum;
    }

    double expiredPart(int ride) {
        index(ride, w.rides);
        double expired = 0;
        double used = 0;
        for (Ticket t : w.tickets) {
            if (t.ride == ride) {
                expired += t.state == State.EXPIRED ? 1 : 0;
                used += t.state == State.USED ? 1 : 0;
            }
        }
        if (expired + used == 0) {
            throw new ArithmeticException();
        }
        return expired / (expired + used);
    }

    int capacityLeft(int ride) {
        index(ride, w.rides);
        int sum = 0;
        for (int s = w.now; s < 144; s++) {
            sum += left(ride, s, null);
        }
        return sum;
    }

    int peakSlot(int ride) {
        index(ride, w.rides);
        int peak = NONE;
        int most = 0;
        for (int s = 0; s < 144; s++) {
            int used = w.rides.get(ride).planned(s) - left(ride, s, null);
            if (used > most) {
                most = used;
                peak = s;
            }
        }
        return peak;
    }

    double usage(int ride) {
        index(ride, w.rides);
        int used = 0;
        int planned = 0;
        for (int s = 0; s < 144; s++) {
            planned += w.rides.get(ride).planned(s);
            used += w.rides.get(ride).planned(s) - left(ride, s, null);
        }
        if (planned == 0) {
            throw new ArithmeticException();
        }
        return (double) used / planned;
    }

    List<Integer> bestOrder;
    int bestEnd;

    void plan(int party, int rides) {
        index(party, w.parties);
        if (Integer.bitCount(rides) < 1 || Integer.bitCount(rides) > 5 || rides >>> w.rides.size() != 0) {
            throw new IllegalArgumentException();
        }
        bestOrder = null;
        bestEnd = NO_WINDOW;
        orders(party, rides, new ArrayList<>(), w.now);
    }

    private void orders(int party, int rides, List<Integer> order, int from) {
        if (rides == 0) {
            if (bestOrder == null || from - 1 < bestEnd) {
                bestOrder = new ArrayList<>(order);
                bestEnd = from - 1;
            }
            return;
        }
        for (int ride = 0; ride < 8; ride++) {
            if ((rides >> ride & 1) == 1) {
                int start = window(List.of(party), ride, from, false, null);
                if (start >= 0) {
                    order.add(ride);
                    orders(party, rides & ~(1 << ride), order, start + w.rides.get(ride).length);
                    order.remove(order.size() - 1);
                }
            }
        }
    }

    int bestFinish(int party, int rides) {
        plan(party, rides);
        return bestEnd;
    }

    int bestOrder(int party, int rides, int index) {
        plan(party, rides);
        return bestOrder == null || index < 0 || index >= bestOrder.size() ? NONE : bestOrder.get(index);
    }

    int servedSet(int ride) {
        index(ride, w.rides);
        List<Integer> list = w.rides.get(ride).waitlist;
        int n = Math.min(8, list.size());
        int[] left = new int[144];
        for (int s = 0; s < 144; s++) {
            left[s] = left(ride, s, null);
        }
        int best = 0;
        for (int set = 0; set < 1 << n; set++) {
            if (Integer.bitCount(set) > Integer.bitCount(best) && allFit(ride, list, set, 0, left)) {
                best = set;
            }
        }
        return best;
    }

    /** Tries every slot for every party; slots with the same room for the same parties are tried once. */
    private boolean allFit(int ride, List<Integer> list, int set, int k, int[] left) {
        if (1 << k > set) {
            return true;
        }
        if ((set >> k & 1) == 0) {
            return allFit(ride, list, set, k + 1, left);
        }
        Party p = w.parties.get(list.get(k));
        java.util.Set<String> tried = new java.util.HashSet<>();
        for (int s = w.now; s < 144 && s <= w.rides.get(ride).last; s++) {
            if (s > w.now + w.tiers.get(p.tier).horizon || left[s] < p.size || !tried.add(left[s] + "/" + who(list, s))) {
                continue;
            }
            left[s] -= p.size;
            boolean fits = allFit(ride, list, set, k + 1, left);
            left[s] += p.size;
            if (fits) {
                return true;
            }
        }
        return false;
    }

    private String who(List<Integer> list, int slot) {
        StringBuilder all = new StringBuilder();
        for (int k = 0; k < Math.min(8, list.size()); k++) {
            all.append(slot <= w.now + w.tiers.get(w.parties.get(list.get(k)).tier).horizon ? '1' : '0');
        }
        return all.toString();
    }

    int mostServed(int ride) {
        return Integer.bitCount(servedSet(ride));
    }

    // ---- snapshots and text ----

    boolean saveSnapshot(int slot) {
        if (slot != 0 && slot != 1) {
            return false;
        }
        snapshots[slot] = w.copy();
        return true;
    }

    boolean restoreSnapshot(int slot) {
        if (slot != 0 && slot != 1 || snapshots[slot] == null) {
            return false;
        }
        w = snapshots[slot].copy();
        return true;
    }

    int formatItinerary(int party) {
        index(party, w.parties);
        text = "";
        for (int k : activeOf(party)) {
            Ticket t = w.tickets.get(k);
            text += t.ride + "@" + t.start + "-" + t.end + ";";
        }
        return text.length();
    }

    int formattedByte(int index) {
        return text == null || index < 0 || index >= text.length() ? NONE : text.charAt(index);
    }
}
