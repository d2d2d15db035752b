/** The edges of a new object, the input buffer, the two readers and their errors: INPUT, ERRORS, P1 to P7. */
final class TextEdges extends Edges {
    private static final int SYNTAX = 1;
    private static final int RANGE = 2;
    private static final int LIMIT = 3;

    static void all() {
        newObject();
        append();
        truncate();
        buffer();
        words();
        numbers();
        separators();
        parks();
        parkNumbers();
        extension();
        parkReplaces();
        scripts();
        scriptNumbers();
        scriptReplaces();
        positions();
        syntax();
        rangeAndLimit();
        firstError();
        loadPark();
        loadScript();
        errors();
    }

    private static void parkIs(String what, String text, int statements) {
        VirtualQueue q = new VirtualQueue();
        due(what, Checks.loadPark(q, text), statements);
        due(what + ": error", q.errorCode() + " at " + q.errorPosition(), "0 at -1");
    }

    private static void parkFails(String what, String text, int code, int position) {
        VirtualQueue q = new VirtualQueue();
        due(what, Checks.loadPark(q, text), TEXT_ERROR);
        due(what + ": error", q.errorCode() + " at " + q.errorPosition(), code + " at " + position);
    }

    private static void scriptIs(String what, String text, int entries) {
        VirtualQueue q = new VirtualQueue();
        due(what, Checks.loadScript(q, text), entries);
        due(what + ": error", q.errorCode() + " at " + q.errorPosition(), "0 at -1");
        due(what + ": entries", q.scriptLength(), entries);
    }

    private static void scriptFails(String what, String text, int code, int position) {
        VirtualQueue q = new VirtualQueue();
        due(what, Checks.loadScript(q, text), TEXT_ERROR);
        due(what + ": error", q.errorCode() + " at " + q.errorPosition(), code + " at " + position);
    }

    private static void newObject() {
        says("P1", "Creates a park without rides, tiers and parties, in slot 0");
        VirtualQueue q = new VirtualQueue();
        due("rides", q.rideCount(), 0);
        due("tiers", q.tierCount(), 0);
        due("parties", q.partyCount(), 0);
        due("slot", q.now(), 0);
        due("tickets", q.ticketCount(), 0);
        due("script", q.scriptLength(), 0);
        due("buffer", Probe.bufferLength(q), 0);
        due("formatted text", q.formattedByte(0), NONE);
        due("snapshots", q.restoreSnapshot(0) || q.restoreSnapshot(1), false);
        noEdge("P1", ", with the extension limit 6.", "it cannot be seen without a ride, and a park that brings one sets it anew");
    }

    /** 20 spaces with a byte in one place that is no token. */
    private static int placeOf(int k, int sign) {
        int[] w = new int[5];
        for (int at = 0; at < 20; at++) {
            w[at / 4] = w[at / 4] << 8 | (at == k ? sign : 32);
        }
        VirtualQueue q = new VirtualQueue();
        q.appendInput(w[0], w[1], w[2], w[3], w[4]);
        q.loadPark();
        return q.errorPosition();
    }

    private static void append() {
        String[] arguments = {"`w0`: first four bytes", "`w1`: next four bytes", "`w2`: next four bytes",
            "`w3`: next four bytes", "`w4`: last four bytes"};
        for (int w = 0; w < 5; w++) {
            says("P2", arguments[w]);
            for (int k = 4 * w; k < 4 * w + 4; k++) {
                due("byte 33 in place " + k, placeOf(k, 33), k);
                due("byte 255 in place " + k, placeOf(k, 255), k);
                due("byte 0 in place " + k, placeOf(k, 0), k);
            }
        }
        says("P2", "Appends 20 bytes to the input buffer: the four bytes of each argument, most significant byte first.");
        VirtualQueue q = new VirtualQueue();
        // "exte nsio n 1; exte nsio" and "n 2; ride 1 0  1 0 0;  "
        q.appendInput(0x65787465, 0x6E73696F, 0x6E20313B, 0x65787465, 0x6E73696F);
        q.appendInput(0x6E20323B, 0x72696465, 0x20312030, 0x20312030, 0x20303B20);
        due("two appended texts are one", q.loadPark(), 3);
        due("the ride is there", q.rideCount(), 1);
        says("P2", "Returns the new length of the buffer;");
        VirtualQueue full = new VirtualQueue();
        for (int k = 1; k <= 75; k++) {
            due("append " + k, full.appendInput(k, -k, MAX, MIN, 0), 20 * k);
        }
        says("P2", "NONE if it would exceed 1500 bytes (then nothing is appended).");
        due("1500 and 20 more", full.appendInput(0, 0, 0, 0, 0), NONE);
        due("length then", Probe.bufferLength(full), 1500);
        for (int length : new int[] {1481, 1490, 1499, 1500}) {
            String text = "extension 7;" + " ".repeat(length - 12);
            stays("with " + length, () -> withText(text), x -> x.appendInput(-1, -1, -1, -1, -1), NONE);
        }
        for (int length : new int[] {0, 1, 1479, 1480}) {
            VirtualQueue p = withText(" ".repeat(length));
            due("with " + length, p.appendInput(0x20202020, 0x20202020, 0x20202020, 0x20202020, 0x20202021), length + 20);
            due("with " + length, p.loadPark(), TEXT_ERROR);
            due("its last byte", p.errorPosition(), length + 19);
        }
    }

    private static VirtualQueue withText(String text) {
        VirtualQueue q = new VirtualQueue();
        Checks.put(q, text);
        return q;
    }

    private static void truncate() {
        says("P3", "Shortens the input buffer to its first bytes.");
        VirtualQueue q = withText("extension 7;!");
        due("without the last byte", q.truncateInput(12), 12);
        due("the first bytes are there", q.loadPark(), 1);
        q = withText("extension 7;!");
        q.truncateInput(11);
        due("without the last two bytes", q.loadPark(), TEXT_ERROR);
        due("the text ends there", q.errorPosition(), 11);
        q = withText("!");
        q.truncateInput(0);
        q.appendInput(0x20202020, 0x20202020, 0x20202020, 0x20202020, 0x20202020);
        due("nothing of it is left", q.loadPark(), 0);
        says("P3", "`length`: 0 to the current length");
        for (int length : new int[] {0, 1, 20, 1499, 1500}) {
            String text = "x".repeat(length);
            stays("the current length " + length, () -> withText(text), x -> x.truncateInput(length), length);
            due("0 of " + length, withText(text).truncateInput(0), 0);
        }
        says("P3", "Returns the new length;");
        due("19 of 20", withText("x".repeat(20)).truncateInput(19), 19);
        due("1 of 20", withText("x".repeat(20)).truncateInput(1), 1);
        says("P3", "NONE if length is out of range.");
        for (int length : new int[] {0, 1, 20, 1499, 1500}) {
            String text = "x".repeat(length);
            for (int wrong : new int[] {-1, length + 1, MAX, MIN}) {
                stays(wrong + " of " + length, () -> withText(text), x -> x.truncateInput(wrong), NONE);
            }
        }
    }

    private static void buffer() {
        says("INPUT", "Text is collected in an input buffer of at most 1500 bytes;");
        String most = " ".repeat(1488) + "extension 7;";
        parkIs("a text of 1500 bytes", most, 1);
        stays("one more call", () -> withText(most), q -> q.appendInput(0, 0, 0, 0, 0), NONE);
        says("INPUT", "loadPark() and loadScript() read it and empty it, also on an error.");
        String[] texts = {"", "extension 7;", "at 5 break 0;", "!", "x".repeat(1500)};
        for (String text : texts) {
            VirtualQueue q = withText(text);
            q.loadPark();
            due("after loadPark() of " + text, q.truncateInput(1), NONE);
            due("a second loadPark()", q.loadPark(), 0);
            q = withText(text);
            q.loadScript();
            due("after loadScript() of " + text, q.truncateInput(1), NONE);
            due("a second loadScript()", q.loadScript(), 0);
        }
    }

    private static void words() {
        says("INPUT", "Tokens are words (longest runs of the letters a to z, at most 10 letters),");
        parkIs("a number behind a word", "extension7;", 1);
        parkFails("a letter more", "extensionx 7;", SYNTAX, 0);
        parkFails("a letter less", "extensio 7;", SYNTAX, 0);
        parkFails("10 letters", "extensions 7;", SYNTAX, 0);
        parkFails("11 letters", "extensionss 7;", SYNTAX, 0);
        parkFails("10 letters too late", "extension abcdefghij;", SYNTAX, 10);
        parkFails("11 letters too late", "extension abcdefghijk;", SYNTAX, 10);
        parkFails("1500 letters", "a".repeat(1500), SYNTAX, 0);
        parkFails("the byte before a", "extension" + (char) 96 + "7;", SYNTAX, 9);
        parkFails("the byte behind z", "extension" + (char) 123 + "7;", SYNTAX, 9);
        parkFails("a capital letter", "Extension 7;", SYNTAX, 0);
        parkFails("capital letters behind", "extensioN 7;", SYNTAX, 0);
        parkFails("a word from a to z", "az 7;", SYNTAX, 0);
        for (String text : new String[] {"ride 1 0 1 0 0;", "tier 1 1 0 0;", "extension 1;"}) {
            for (int at = 0; at < text.indexOf(' '); at++) {
                parkFails("another letter in " + text, text.substring(0, at) + 'q' + text.substring(at + 1), SYNTAX, 0);
            }
        }
        for (int at = 13; at < 18; at++) {
            StringBuilder text = new StringBuilder("tier 1 1 0 0;party 0 1;");
            text.setCharAt(at, 'q');
            parkFails("another letter in party", text.toString(), SYNTAX, 13);
        }
        for (String action : new String[] {"issue 0 0 0;", "redeem 0;", "cancel 0;", "wait 0 0;", "standby 0 1;", "break 0;", "repair 0;"}) {
            scriptIs("the word itself", "at 5 " + action, 1);
            for (int at = 0; at < action.indexOf(' '); at++) {
                scriptFails("another letter in " + action, "at 5 " + action.substring(0, at) + 'q' + action.substring(at + 1), SYNTAX, 5);
            }
        }
        scriptFails("another letter in at", "qt 5 break 0;", SYNTAX, 0);
        scriptFails("another letter in at", "aq 5 break 0;", SYNTAX, 0);
        for (char letter : new char[] {'a', 'b', 'y', 'z'}) {
            parkFails("a letter " + letter + " behind", "ride" + letter + " 1 0 1 0 0;", SYNTAX, 0);
            parkFails("a letter " + letter + " before", letter + "ride 1 0 1 0 0;", SYNTAX, 0);
            parkFails("a letter " + letter + " between", "ri" + letter + "de 1 0 1 0 0;", SYNTAX, 0);
            scriptFails("a letter " + letter + " behind", "at 5 break" + letter + " 0;", SYNTAX, 5);
            parkFails("ten letters, the last " + letter, "extension" + letter + " 1;", SYNTAX, 0);
            parkFails("a letter " + letter + " behind a number", "extension 1" + letter + ";", SYNTAX, 11);
        }
    }

    private static void numbers() {
        says("INPUT", "numbers (longest runs of digits, at most 5 digits)");
        parkIs("5 digits", "extension 00007;", 1);
        parkFails("6 digits", "extension 000007;", SYNTAX, 10);
        parkFails("5 digits, too large", "extension 99999;", RANGE, 10);
        parkFails("6 digits, too large", "extension 100000;", SYNTAX, 10);
        parkFails("digits that wrap around to 7", "extension 4294967303;", SYNTAX, 10);
        parkFails("1490 digits", "extension " + "0".repeat(1490), SYNTAX, 10);
        parkFails("the byte before 0", "extension 7" + (char) 47, SYNTAX, 11);
        parkFails("the byte behind 9", "extension 9" + (char) 58, SYNTAX, 11);
        parkFails("a sign", "extension -7;", SYNTAX, 10);
        parkFails("digits and letters", "extension 7a;", SYNTAX, 11);
        scriptIs("a word behind a number", "at0break0;", 1);
        says("INPUT", "and the symbol ;.");
        parkIs("without a space", "extension 7;extension 8;", 2);
        parkIs("with spaces", "extension 7 ; extension 8 ;", 2);
        parkFails("two of them", "extension 7;;", SYNTAX, 12);
        parkFails("the byte behind it", "extension 7" + (char) 60, SYNTAX, 11);
    }

    private static void separators() {
        says("INPUT", "Spaces and line feeds (bytes 32 and 10) separate tokens and have no other meaning.");
        parkIs("line feeds", "\nextension\n7\n;\n", 1);
        parkIs("spaces", "  extension  7  ;  ", 1);
        parkIs("only spaces", " ".repeat(1500), 0);
        parkIs("only line feeds", "\n".repeat(1500), 0);
        parkFails("they part a word", "exten sion 7;", SYNTAX, 0);
        parkFails("they part a number", "ride 2 0 50 3 10 99;", RANGE, 9);
        scriptIs("in a script", " at\n5 \n break\n 0 \n;\n", 1);
        for (int sign : new int[] {0, 9, 11, 13, 31, 33, 127, 128, 160, 255}) {
            parkFails("byte " + sign, "extension 7;" + (char) sign, SYNTAX, 12);
            scriptFails("byte " + sign, "at 5 break 0;" + (char) sign, SYNTAX, 13);
        }
    }

    private static void parks() {
        says("INPUT", "A park is a sequence of statements, perhaps empty, in any order:");
        parkIs("empty", "", 0);
        parkIs("one way", "extension 1;ride 1 0 1 0 0;tier 1 1 0 0;party 0 1;", 4);
        parkIs("another way", "tier 1 1 0 0;party 0 1;ride 1 0 1 0 0;party 0 1;tier 1 1 0 0;party 1 1;extension 1;", 7);
        says("INPUT", "ride CAPACITY SHARE LENGTH FIRST LAST ;");
        wrongTokens(true, "ride", "20", "50", "3", "10", "99", ";");
        says("INPUT", "tier LIMIT HORIZON PAUSE RANK ;");
        wrongTokens(true, "tier", "2", "50", "3", "1", ";");
        says("INPUT", "party TIER SIZE ;");
        parkFails("no size", "tier 1 1 0 0;party 0;", SYNTAX, 20);
        parkFails("no tier", "tier 1 1 0 0;party;", SYNTAX, 18);
        parkFails("no end", "tier 1 1 0 0;party 0 1", SYNTAX, 22);
        parkFails("a word as tier", "tier 1 1 0 0;party a 1;", SYNTAX, 19);
        parkFails("a word as size", "tier 1 1 0 0;party 0 a;", SYNTAX, 21);
        parkFails("one number more", "tier 1 1 0 0;party 0 1 1;", SYNTAX, 23);
        says("INPUT", "extension LIMIT ;");
        wrongTokens(true, "extension", "20", ";");
    }

    /** Each token of a statement or entry missing, of another kind, too long, or none at all; and one too many. */
    private static void wrongTokens(boolean park, String... tokens) {
        StringBuilder before = new StringBuilder();
        for (int k = 0; k < tokens.length; k++) {
            String rest = String.join(" ", java.util.Arrays.copyOfRange(tokens, k + 1, tokens.length));
            boolean isNumber = Character.isDigit(tokens[k].charAt(0));
            boolean isWord = Character.isLetter(tokens[k].charAt(0));
            if (k > 0) {
                tokenFails(park, before.toString(), before.length());
                tokenFails(park, before + "  \n", before.length() + 3);
            }
            tokenFails(park, before + "? " + rest, before.length());
            tokenFails(park, before + (isNumber ? "x " : "7 ") + rest, before.length());
            tokenFails(park, before + (isWord ? "; " : "x ") + rest, before.length());
            tokenFails(park, before + (isNumber ? "; " : "000007 ") + rest, before.length());
            tokenFails(park, before + "abcdefghijk " + rest, before.length());
            before.append(tokens[k]).append(' ');
        }
        tokenFails(park, before + "7", before.length());
        tokenFails(park, before + ";", before.length());
        tokenFails(park, before + "x", before.length());
    }

    private static void tokenFails(boolean park, String text, int position) {
        if (park) {
            parkFails("\"" + text + "\"", text, SYNTAX, position);
        } else {
            scriptFails("\"" + text + "\"", text, SYNTAX, position);
        }
    }

    /** A number of a park, from least to most: both are good, and nothing beyond them. */
    private static void parkNumber(String before, int least, int most, String behind) {
        int statements = (before + behind).split(";").length;
        parkIs("least", before + least + behind, statements);
        parkIs("most", before + most + behind, statements);
        parkFails("one more", before + (most + 1) + behind, RANGE, before.length());
        parkFails("far more", before + 99999 + behind, RANGE, before.length());
        if (least > 0) {
            parkFails("one less", before + (least - 1) + behind, RANGE, before.length());
            parkFails("nought", before + 0 + behind, RANGE, before.length());
        } else {
            parkFails("one less", before + -1 + behind, SYNTAX, before.length());
        }
    }

    private static void parkNumbers() {
        says("INPUT", "(1 to 200;");
        parkNumber("ride ", 1, 200, " 50 3 10 99;");
        due("least", Checks.park("ride 1 100 3 10 99;").planned(0, 10), 1);
        due("most", Checks.park("ride 200 100 3 10 99;").planned(0, 10), 200);
        says("INPUT", "0 to 100;");
        parkNumber("ride 20 ", 0, 100, " 3 10 99;");
        due("least", Checks.park("ride 20 0 3 10 99;").planned(0, 10), 0);
        due("most", Checks.park("ride 20 100 3 10 99;").planned(0, 10), 20);
        says("INPUT", "1 to 24;");
        parkNumber("ride 20 50 ", 1, 24, " 10 99;");
        due("least", endOfFirst("ride 20 50 1 10 99;"), 10);
        due("most", endOfFirst("ride 20 50 24 10 99;"), 33);
        says("INPUT", "0 to 143;");
        parkNumber("ride 20 50 3 ", 0, 143, " 143;");
        due("least", Checks.park("ride 20 50 3 0 143;").planned(0, 0), 10);
        VirtualQueue late = Checks.park("ride 20 50 3 143 143;");
        due("most", late.planned(0, 142) + " " + late.planned(0, 143), "0 10");
        says("INPUT", "FIRST to 143)");
        parkNumber("ride 20 50 3 0 ", 0, 143, ";");
        parkNumber("ride 20 50 3 77 ", 77, 143, ";");
        parkNumber("ride 20 50 3 143 ", 143, 143, ";");
        VirtualQueue short1 = Checks.park("ride 20 50 3 77 77;");
        due("one slot", short1.planned(0, 76) + " " + short1.planned(0, 77) + " " + short1.planned(0, 78), "0 10 0");
        says("INPUT", "(1 to 5;");
        parkNumber("tier ", 1, 5, " 50 3 1;");
        says("INPUT", "1 to 144;");
        parkNumber("tier 2 ", 1, 144, " 3 1;");
        says("INPUT", "0 to 48;");
        parkNumber("tier 2 50 ", 0, 48, " 1;");
        says("INPUT", "0 to 9)");
        parkNumber("tier 2 50 3 ", 0, 9, ";");
        says("INPUT", "(a tier that stands before;");
        parkFails("no tier", "party 0 1;", RANGE, 6);
        parkFails("a tier behind", "party 0 1;tier 1 1 0 0;", RANGE, 6);
        parkNumber("tier 1 1 0 0;party ", 0, 0, " 1;");
        parkNumber("tier 1 1 0 0;tier 1 1 0 0;tier 1 1 0 0;tier 1 1 0 0;party ", 0, 3, " 1;");
        parkFails("the next one stands behind", "tier 1 1 0 0;party 1 1;tier 1 1 0 0;", RANGE, 19);
        says("INPUT", "1 to 12)");
        parkNumber("tier 1 1 0 0;party 0 ", 1, 12, ";");
        due("least", Checks.park("tier 1 1 0 0;party 0 1;").partySize(0), 1);
        due("most", Checks.park("tier 1 1 0 0;party 0 12;").partySize(0), 12);
    }

    private static int endOfFirst(String ride) {
        VirtualQueue q = Checks.park(ride + "tier 1 144 0 0;party 0 1;");
        q.issue(0, 0, 0);
        return q.ticketEnd(0);
    }

    /** How often a ticket is extended before it becomes OPEN. */
    private static int extensions(String statement) {
        VirtualQueue q = Checks.park("ride 20 50 1 0 143;tier 1 144 0 0;party 0 1;" + statement);
        q.issue(0, 0, 0);
        q.breakDown(0);
        q.advance(144);
        due("it is OPEN at last", q.ticketState(0), OPEN);
        return q.ticketExtension(0);
    }

    private static void extension() {
        says("INPUT", "(0 to 48):");
        parkNumber("extension ", 0, 48, ";");
        due("least", extensions("extension 0;"), 0);
        due("one", extensions("extension 1;"), 1);
        due("most", extensions("extension 48;"), 48);
        says("INPUT", "the extension limit, which is 6 if this statement is missing;");
        due("missing", extensions(""), 6);
        VirtualQueue q = Park.BUSY.make();
        q.setExtensionLimit(48);
        q.truncateInput(0);
        Checks.loadPark(q, "ride 20 50 1 0 143;tier 1 144 0 0;party 0 1;");
        q.issue(0, 0, 0);
        q.breakDown(0);
        q.advance(144);
        due("missing in a later park", q.ticketExtension(0), 6);
        says("INPUT", "the last one counts");
        due("two", extensions("extension 3;extension 2;"), 2);
        due("two", extensions("extension 2;extension 3;"), 3);
        due("three", extensions("extension 48;extension 0;extension 1;"), 1);
    }

    private static void parkReplaces() {
        says("INPUT", "A park without errors replaces everything except the formatted text:");
        for (Park old : Park.values()) {
            for (String text : new String[] {"", "ride 9 50 1 0 143;tier 1 144 0 0;party 0 1;"}) {
                VirtualQueue q = old.make();
                String formatted = Checks.formatted(q);
                q.truncateInput(0);
                Checks.loadPark(q, text);
                due("the text of " + old, Checks.formatted(q), formatted);
                unchanged("all else of " + old, withoutText(Probe.trace(q)), withoutText(Probe.trace(Checks.park(text))));
            }
        }
        says("INPUT", "slot 0, no tickets, empty lines, waitlists and script, no ride is down, no snapshots.");
        VirtualQueue q = Park.OVER.make();
        q.saveSnapshot(0);
        q.truncateInput(0);
        Checks.loadPark(q, "ride 9 50 1 0 143;".repeat(4));
        due("slot", q.now(), 0);
        due("tickets", q.ticketCount(), 0);
        for (int ride = 0; ride < 4; ride++) {
            due("merge line", q.mergePersons(ride), 0);
            due("standby line", q.standbyPersons(ride), 0);
            due("waitlist", q.waitlistAt(ride, 0), NONE);
            due("down", q.isDown(ride), false);
            due("boarded", q.boarded(ride, true) + q.boarded(ride, false), 0);
        }
        due("script", q.scriptLength(), 0);
        due("snapshot 0", q.restoreSnapshot(0), false);
        due("snapshot 1", q.restoreSnapshot(1), false);
        parkEmptiesAllRides();
        parkEmptiesScript();
    }

    /** All that the eight rides have, on each of them. */
    private static void parkEmptiesAllRides() {
        String park = "ride 20 50 2 0 143;".repeat(8) + "tier 5 144 0 0;" + "party 0 4;".repeat(16);
        VirtualQueue q = Checks.park(park);
        for (int ride = 0; ride < 8; ride++) {
            q.issue(ride, ride, 0);
            q.redeem(ride);
            q.joinStandby(ride, 9);
        }
        q.advance(1);
        for (int ride = 0; ride < 8; ride++) {
            q.redeem(q.issue(8 + ride, ride, 1));
            q.joinStandby(ride, 9);
            q.breakDown(ride);
            q.joinWaitlist(ride, ride);
            due("ride " + ride + " before", q.mergePersons(ride) + " " + q.standbyPersons(ride) + " " + q.boarded(ride, true) + " "
                    + q.boarded(ride, false) + " " + Checks.waitlist(q, ride) + q.isDown(ride), "4 9 4 9 " + ride + " true");
        }
        Checks.loadPark(q, park);
        for (int ride = 0; ride < 8; ride++) {
            due("ride " + ride, q.mergePersons(ride) + " " + q.standbyPersons(ride) + " " + q.boarded(ride, true) + " "
                    + q.boarded(ride, false) + " " + Checks.waitlist(q, ride) + q.isDown(ride), "0 0 0 0 false");
        }
        unchanged("all else", Probe.trace(q), Probe.trace(Checks.park(park)));
    }

    /** A script of which some entries have been executed, or all. */
    private static void parkEmptiesScript() {
        for (int slots = 1; slots <= 3; slots++) {
            VirtualQueue q = Park.SMALL.make();
            Checks.loadScript(q, "at 0 standby 0 1;at 1 standby 0 1;at 2 standby 0 1;");
            due("executed", q.runScript(slots), slots);
            Checks.loadPark(q, "ride 20 50 1 0 143;");
            due("script after " + slots + " entries", q.scriptLength(), 0);
            due("nothing of it is run", q.runScript(9) + " " + q.boarded(0, false), "0 0");
            Checks.loadScript(q, "at 9 standby 0 5;");
            due("a new script", q.scriptLength() + " " + q.runScript(1) + " " + q.boarded(0, false), "1 1 5");
        }
    }

    private static String withoutText(String trace) {
        return trace.replaceFirst("text .*\n", "");
    }

    private static void scripts() {
        says("INPUT", "A script is a sequence of entries, perhaps empty:");
        scriptIs("empty", "", 0);
        scriptIs("one", "at 5 break 0;", 1);
        scriptIs("forty", "at 5 break 0;".repeat(40), 40);
        says("INPUT", "at SLOT ACTION ;");
        scriptFails("no slot", "at break 0;", SYNTAX, 3);
        scriptFails("no action", "at 5;", SYNTAX, 4);
        scriptFails("two actions", "at 5 break 0 break 0;", SYNTAX, 13);
        scriptFails("no at", "5 break 0;", SYNTAX, 0);
        says("INPUT", "ACTION = issue PARTY RIDE EARLIEST | redeem TICKET | cancel TICKET | wait PARTY RIDE"
                + " | standby RIDE SIZE | break RIDE | repair RIDE");
        wrongTokens(false, "at", "5", "issue", "0", "1", "2", ";");
        wrongTokens(false, "at", "5", "redeem", "0", ";");
        wrongTokens(false, "at", "5", "cancel", "0", ";");
        wrongTokens(false, "at", "5", "wait", "0", "1", ";");
        wrongTokens(false, "at", "5", "standby", "0", "1", ";");
        wrongTokens(false, "at", "5", "break", "0", ";");
        wrongTokens(false, "at", "5", "repair", "0", ";");
        for (String word : new String[] {"advance", "issues", "issu", "at", "ride", "leave", "move", "a"}) {
            scriptFails(word + " is no action", "at 5 " + word + " 0;", SYNTAX, 5);
        }
    }

    /** A number of a script, from least to most: both are good, and nothing beyond them. */
    private static void scriptNumber(String before, int least, int most, String behind) {
        int entries = (before + behind).split(";").length;
        scriptIs("least", before + least + behind, entries);
        scriptIs("most", before + most + behind, entries);
        scriptFails("one more", before + (most + 1) + behind, RANGE, before.length());
        scriptFails("far more", before + 99999 + behind, RANGE, before.length());
        if (least > 0) {
            scriptFails("one less", before + (least - 1) + behind, RANGE, before.length());
            scriptFails("nought", before + 0 + behind, RANGE, before.length());
        } else {
            scriptFails("one less", before + -1 + behind, SYNTAX, before.length());
        }
    }

    private static void scriptNumbers() {
        says("INPUT", "(0 to 143, not before the SLOT of the entry before)");
        scriptNumber("at ", 0, 143, " break 0;");
        scriptNumber("at 0 break 0;at ", 0, 143, " break 0;");
        scriptNumber("at 77 break 0;at ", 77, 143, " break 0;");
        scriptNumber("at 143 break 0;at ", 143, 143, " break 0;");
        scriptNumber("at 9 break 0;at 77 break 0;at 77 break 0;at ", 77, 143, " break 0;");
        says("INPUT", "(PARTY 0 to 49,");
        scriptNumber("at 5 issue ", 0, 49, " 0 0;");
        scriptNumber("at 5 wait ", 0, 49, " 0;");
        says("INPUT", "RIDE 0 to 7,");
        scriptNumber("at 5 issue 0 ", 0, 7, " 0;");
        scriptNumber("at 5 wait 0 ", 0, 7, ";");
        scriptNumber("at 5 standby ", 0, 7, " 1;");
        scriptNumber("at 5 break ", 0, 7, ";");
        scriptNumber("at 5 repair ", 0, 7, ";");
        says("INPUT", "EARLIEST 0 to 143,");
        scriptNumber("at 5 issue 0 0 ", 0, 143, ";");
        says("INPUT", "TICKET 0 to 149,");
        scriptNumber("at 5 redeem ", 0, 149, ";");
        scriptNumber("at 5 cancel ", 0, 149, ";");
        says("INPUT", "SIZE 1 to 12)");
        scriptNumber("at 5 standby 0 ", 1, 12, ";");
    }

    private static void scriptReplaces() {
        says("INPUT", "A script without errors replaces the script.");
        VirtualQueue q = Park.SMALL.make();
        Checks.loadScript(q, "at 1 break 0;at 2 standby 0 1;at 3 standby 0 1;");
        Checks.loadScript(q, "at 2 standby 0 5;");
        due("by a shorter one", q.scriptLength(), 1);
        due("nothing of the old one is run", q.runScript(4), 1);
        due("but the new one", q.boarded(0, false), 5);
        Checks.loadScript(q, "at 9 break 0;");
        due("by an empty one", q.loadScript(), 0);
        due("by an empty one", q.scriptLength(), 0);
        Checks.loadScript(q, "at 9 break 0;");
        Checks.loadScript(q, "at 9 break 0;at");
        due("with an error it stays", q.scriptLength(), 1);
    }

    private static void positions() {
        says("ERRORS", "with a code and a position (the index of the first byte of the token concerned,");
        parkFails("the first byte of all", "!", SYNTAX, 0);
        parkFails("the last byte of all", " ".repeat(1499) + "!", SYNTAX, 1499);
        parkFails("a long token at the end", " ".repeat(1489) + "abcdefghijk", SYNTAX, 1489);
        parkFails("behind a line feed", "\n\n extension 49;", RANGE, 13);
        parkFails("right behind a token", "extension49;", RANGE, 9);
        says("ERRORS", "or the length of the text if it ends too early):");
        parkFails("behind a word", "ride", SYNTAX, 4);
        parkFails("behind spaces", "ride   ", SYNTAX, 7);
        parkFails("behind all 1500 bytes", " ".repeat(1496) + "ride", SYNTAX, 1500);
        parkFails("behind all 1500 bytes", "ride" + " ".repeat(1496), SYNTAX, 1500);
        scriptFails("behind all 1500 bytes", " ".repeat(1498) + "at", SYNTAX, 1500);
        scriptFails("behind a number", "at 5 break 0", SYNTAX, 12);
    }

    private static void syntax() {
        says("ERRORS", "1 syntax: something that is not a token (also a word or number that is too long),");
        parkFails("no token", "tier 1 1 0 0;$", SYNTAX, 13);
        parkFails("11 letters", "tier 1 1 0 0;abcdefghijk", SYNTAX, 13);
        parkFails("6 digits", "tier 1 1 0 000000;", SYNTAX, 11);
        scriptFails("11 letters", "at 5 abcdefghijk", SYNTAX, 5);
        scriptFails("6 digits", "at 000005 break 0;", SYNTAX, 3);
        scriptFails("6 digits that are out of range too", "at 5 break 100000;", SYNTAX, 11);
        says("ERRORS", "or a token that is not allowed at its place;");
        parkFails("a number at the start", "1", SYNTAX, 0);
        parkFails("the word of an entry", "at 5 break 0;", SYNTAX, 0);
        scriptFails("the word of a statement", "ride 1 0 1 0 0;", SYNTAX, 0);
        parkFails("a word that is good elsewhere", "extension ride", SYNTAX, 10);
    }

    private static void rangeAndLimit() {
        says("ERRORS", "2 range: a number outside its range (also a tier that does not stand before, and a SLOT that is too early);");
        parkFails("too large", "extension 49;", RANGE, 10);
        parkFails("too small", "ride 0 50 3 10 99;", RANGE, 5);
        parkFails("no tier before", "party 0 1;", RANGE, 6);
        parkFails("a fifth tier", "tier 1 1 0 0;tier 1 1 0 0;tier 1 1 0 0;tier 1 1 0 0;party 4 1;", RANGE, 58);
        scriptFails("too early by one", "at 5 break 0;at 4 break 0;", RANGE, 16);
        scriptFails("too early", "at 143 break 0;at 0 break 0;", RANGE, 18);
        says("ERRORS", "3 limit: the word ride, tier or party of a ninth ride, a fifth tier or a 51st party,");
        String rides = "ride 1 0 1 0 0;".repeat(8);
        parkIs("8 rides", rides, 8);
        parkFails("9 rides", rides + "ride 1 0 1 0 0;", LIMIT, 120);
        parkFails("the word is enough", rides + "ride", LIMIT, 120);
        parkFails("behind spaces", rides + " \n ride", LIMIT, 123);
        parkFails("another word", rides + "rid", SYNTAX, 120);
        String tiers = "tier 1 1 0 0;".repeat(4);
        parkIs("4 tiers", tiers, 4);
        parkFails("5 tiers", tiers + "tier 1 1 0 0;", LIMIT, 52);
        parkFails("the word is enough", tiers + "tier", LIMIT, 52);
        String parties = "tier 1 1 0 0;" + "party 0 1;".repeat(50);
        parkIs("50 parties", parties, 51);
        parkFails("51 parties", parties + "party 0 1;", LIMIT, 513);
        parkFails("the word is enough", parties + "party", LIMIT, 513);
        parkIs("all of them", rides + tiers + "party 3 1;".repeat(50) + "extension 3;", 63);
        says("ERRORS", "or the word at of a 41st entry.");
        String entries = "at 5 break 0;".repeat(40);
        scriptIs("40 entries", entries, 40);
        scriptFails("41 entries", entries + "at 5 break 0;", LIMIT, 520);
        scriptFails("the word is enough", entries + "at", LIMIT, 520);
        scriptFails("it comes before a wrong slot", entries + "at 4 break 0;", LIMIT, 520);
        scriptFails("another word", entries + "a", SYNTAX, 520);
    }

    private static void firstError() {
        says("ERRORS", "The first error is reported, from left to right,");
        parkFails("range, then syntax", "extension 49 $", RANGE, 10);
        parkFails("syntax, then range", "extension $ 49;", SYNTAX, 10);
        parkFails("range, then range", "ride 0 101 25 144 144;", RANGE, 5);
        parkFails("the second number", "ride 1 101 25 144 144;", RANGE, 7);
        parkFails("the third number", "ride 1 100 25 144 144;", RANGE, 11);
        parkFails("the fourth number", "ride 1 100 24 144 144;", RANGE, 14);
        parkFails("the fifth number", "ride 1 100 24 143 144;", RANGE, 18);
        parkFails("limit, then range", "tier 1 1 0 0;".repeat(4) + "tier 0 0 0 0;", LIMIT, 52);
        parkFails("range, then limit", "extension 49;" + "ride 1 0 1 0 0;".repeat(9), RANGE, 10);
        parkFails("syntax, then limit", "$" + "ride 1 0 1 0 0;".repeat(9), SYNTAX, 0);
        scriptFails("slot, then action", "at 144 what", RANGE, 3);
        scriptFails("action, then number", "at 143 what 99", SYNTAX, 7);
        scriptFails("in the first of two entries", "at 5 break 8;at 4 break 9;", RANGE, 11);
    }

    /** With an error only the buffer and the error change: on every kind of object. */
    private static void failedLoads(String text, boolean asPark) {
        for (Park park : Park.values()) {
            VirtualQueue q = park.make();
            q.truncateInput(0);
            Checks.put(q, text);
            due(park + " answers", asPark ? q.loadPark() : q.loadScript(), TEXT_ERROR);
            due(park + " has an empty buffer", q.truncateInput(1), NONE);
            due(park + " has an error", q.errorCode() > 0 && q.errorPosition() >= 0, true);
            unchanged(park + " with an error", Probe.world(q), Probe.world(park.make()));
        }
    }

    private static void loadPark() {
        says("P4", "Reads the input buffer as a park.");
        parkIs("nothing", "", 0);
        parkIs("a text of 1500 bytes", "ride 1 0 1 0 0;" + " ".repeat(1485), 1);
        parkFails("a script", "at 5 break 0;", SYNTAX, 0);
        says("P4", "Returns the number of statements;");
        parkIs("none", " \n", 0);
        parkIs("one", "extension 1;", 1);
        parkIs("as many as find room", "extension0;".repeat(136) + "    ", 136);
        says("P4", "TEXT_ERROR if the text has an error (then only the buffer and the error change).");
        failedLoads("!", true);
        failedLoads("ride 1 0 1 0 0;tier 2 9 1 1;party 0 9;extension 9;party 1 1;", true);
        failedLoads("ride 1 0 1 0 0;".repeat(9), true);
        failedLoads("ride 1 0 1 0 0", true);
    }

    private static void loadScript() {
        says("P5", "Reads the input buffer as a script.");
        scriptIs("nothing", "", 0);
        scriptIs("a text of 1500 bytes", " ".repeat(1487) + "at 5 break 0;", 1);
        scriptFails("a park", "extension 1;", SYNTAX, 0);
        says("P5", "Returns the number of entries;");
        scriptIs("none", " \n", 0);
        scriptIs("one", "at 5 break 0;", 1);
        scriptIs("most", "at 5 issue 49 7 143; ".repeat(40), 40);
        says("P5", "TEXT_ERROR if the text has an error (then only the buffer and the error change).");
        failedLoads("!", false);
        failedLoads("at 4 standby 0 1;at 5 break 1;at 4 break 2;", false);
        failedLoads("at 5 break 0;".repeat(41), false);
        failedLoads("at 5 break 0;at 5 break 0", false);
    }

    private static void errors() {
        VirtualQueue q = new VirtualQueue();
        says("P6", "0 if it had no error, or if there was none.");
        due("there was none", q.errorCode(), 0);
        Checks.loadPark(q, "extension 1;");
        due("a park without error", q.errorCode(), 0);
        Checks.loadScript(q, "at 5 break 0;");
        due("a script without error", q.errorCode(), 0);
        says("P7", "NONE if it had no error, or if there was none.");
        due("a script without error", q.errorPosition(), NONE);
        due("there was none", new VirtualQueue().errorPosition(), NONE);
        says("P6", "Returns 1 to 3;");
        String[] texts = {"!", "extension 49;", "tier 1 1 0 0;".repeat(5)};
        int[] positions = {0, 10, 52};
        for (int k = 0; k < 3; k++) {
            Checks.loadPark(q, texts[k]);
            due("error " + (k + 1), q.errorCode(), k + 1);
        }
        says("P7", "Returns the position;");
        for (int k = 0; k < 3; k++) {
            Checks.loadPark(q, texts[k]);
            due("error " + (k + 1), q.errorPosition(), positions[k]);
        }
        Checks.loadPark(q, " ".repeat(1496) + "ride");
        due("behind a full buffer", q.errorPosition(), 1500);
        laterError("P6", "Returns the error code of the last loadPark() or loadScript(), whichever was later.", true);
        laterError("P7", "Returns the error position of the last loadPark() or loadScript(), whichever was later.", false);
    }

    private static void laterError(String place, String sentence, boolean code) {
        says(place, sentence);
        VirtualQueue q = new VirtualQueue();
        Checks.loadPark(q, "extension 49;");
        due("a park", code ? q.errorCode() : q.errorPosition(), code ? RANGE : 10);
        Checks.loadScript(q, "at 5");
        due("a script behind it", code ? q.errorCode() : q.errorPosition(), code ? SYNTAX : 4);
        Checks.loadPark(q, "extension 50;");
        due("a park behind it", code ? q.errorCode() : q.errorPosition(), code ? RANGE : 10);
        q.appendInput(0, 0, 0, 0, 0);
        q.truncateInput(0);
        due("the buffer does not matter", code ? q.errorCode() : q.errorPosition(), code ? RANGE : 10);
        q.loadScript();
        due("an empty script behind it", code ? q.errorCode() : q.errorPosition(), code ? 0 : NONE);
        Checks.loadScript(q, "at 144");
        due("a script", code ? q.errorCode() : q.errorPosition(), code ? RANGE : 3);
        q.loadPark();
        due("an empty park behind it", code ? q.errorCode() : q.errorPosition(), code ? 0 : NONE);
    }
}
