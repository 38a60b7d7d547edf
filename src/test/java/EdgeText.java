/** Part 1 of the terms with promises 1 and 2: a new object, and rules by a text. */
final class EdgeText {
    private static final int UNKNOWN = RangeRules.UNKNOWN, OUTSIDE = RangeRules.OUTSIDE, STATE = RangeRules.STATE;
    private static final int NULL = 1, CAST = 2, INDEX = 3, SIZE = 4;
    private static final int LEAST = Integer.MIN_VALUE, MOST = Integer.MAX_VALUE;
    private static final String THREE = Scene.THREE, SEVEN = Scene.SEVEN;

    private EdgeText() {
    }

    static void all() {
        points();
        oneToSeven();
        kindsAndDeeds();
        digits();
        lows();
        highs();
        firstFault();
        eighth();
        endsTooSoon();
        codes();
        kinds();
        deeds();
        allAnew();
        worth();
        has();
        winner();
        newObject();
        partOfARow();
        lanes();
        howMany();
        lessTheFirstFault();
        sheets();
        wrongLanes();
        casts();
        nothing();
        sizes();
        indices();
        faultsAheadOfFirstFault();
    }

    // ---- the terms

    private static void points() {
        Document.part(1, "POINTS are 0 .. 25.");
        for (int x : new int[] {0, 25}) {
            Scene.tellsOnly(SEVEN, x == 0 ? 0 : 5, "winner", x);
            Scene.tellsOnly(SEVEN, x == 0 ? 1 : 12, "ask", x, 0);
            Due.is("reading of " + x, Scene.of(SEVEN).reading(x, 0), 2);
        }
        for (int x : new int[] {LEAST, -1, 26, MOST}) {
            Scene.refuses(SEVEN, OUTSIDE, "winner", x);
            Scene.refuses(SEVEN, OUTSIDE, "ask", x, 0);
            Scene.refuses(SEVEN, OUTSIDE, "reading", x, 0);
        }
    }

    /** A text of so many rules, each of one point. */
    private static String textOf(int rules) {
        StringBuilder text = new StringBuilder("q");
        for (int r = 0; r < rules; r++) {
            char point = (char) ('a' + r);
            text.append(";PG").append(r + 1).append(point).append(point);
        }
        return text.toString();
    }

    private static void oneToSeven() {
        Document.part(1, "RULES by a TEXT: q, then 1 to 7 RULES, numbered from 0 on, each:");
        notTaken("q", 1);
        for (int n = 1; n <= 7; n++) {
            RangeRules x = new RangeRules();
            Due.is(n + " rules", Due.rules(x, textOf(n)), n);
            Due.is("they are there", x.many(0), n);
            for (int r = 0; r < n; r++) Due.is("number of rule " + r, x.ofRule(r, 2), r + 1);
            Due.is("there is none behind", x.ofRule(n, 2), UNKNOWN);
        }
        notTaken(textOf(8), 43);
    }

    private static void notTaken(String text, int place) {
        RangeRules x = Due.with(SEVEN);
        Due.is("rules of " + text, Due.rules(x, text), -100 - place);
        Due.is("rules behind it", x.many(0), 7);
    }

    /** Of all bytes at a place of a text of one rule only some are taken, the others are its first fault. */
    private static void takenAt(String text, int place, String taken) {
        for (int code = -128; code <= 127; code++) {
            RangeRules x = new RangeRules();
            Due.write(x, 0, 0, text);
            Due.is("put", x.put(0, place, code), 1);
            int due = code >= 0 && taken.indexOf(code) >= 0 ? 1 : -100 - place;
            Due.is(text + " with " + code + " at " + place, x.rules(0, 0, 0, 7), due);
        }
    }

    private static void kindsAndDeeds() {
        Document.part(1, "; and a letter (its kind), a letter (its DEED: G gives, D denies, J asks on),");
        takenAt("q;PG5mm", 0, "q");
        takenAt("q;PG5mm", 1, ";");
        takenAt("q;PG5mm", 2, "PBW");
        takenAt("q;PG5mm", 3, "GDJ");
    }

    private static void digits() {
        Document.part(1, "a digit 1 .. 9 (its NUMBER),");
        takenAt("q;PG5mm", 4, "123456789");
        Due.is("number of 1", Due.with("q;PG1mm").ofRule(0, 2), 1);
        Due.is("number of 9", Due.with("q;PG9mm").ofRule(0, 2), 9);
    }

    private static void lows() {
        Document.part(1, "a letter a .. z (LOW, a POINT),");
        takenAt("q;PG5mz", 5, "abcdefghijklmnopqrstuvwxyz");
        Due.is("low of a", Due.with("q;PG5az").ofRule(0, 3), 0);
        Due.is("low of z", Due.with("q;PG5zz").ofRule(0, 3), 25);
    }

    private static void highs() {
        Document.part(1, "a letter from that on to z (HIGH).");
        takenAt("q;PG5am", 6, "abcdefghijklmnopqrstuvwxyz");
        takenAt("q;PG5mm", 6, "mnopqrstuvwxyz");
        takenAt("q;PG5zz", 6, "z");
        Due.is("high of a", Due.with("q;PG5aa").ofRule(0, 4), 0);
        Due.is("high of z", Due.with("q;PG5az").ofRule(0, 4), 25);
        // Each rule's high is held against its own low.
        Due.is("two rules", Due.with("q;PG5yz;PG5ab").many(0), 2);
        notTaken("q;PG5ab;PG5ba", 12);
    }

    private static void firstFault() {
        Document.part(1, "FIRST FAULT: the place (from 0 on) of the first code with which no TEXT goes on");
        notTaken("x;PG1aa", 0);
        notTaken("qx", 1);
        notTaken("q;x", 2);
        notTaken("q;Px", 3);
        notTaken("q;PGx", 4);
        notTaken("q;PG1A", 5);
        notTaken("q;PG1bA", 6);
        notTaken("q;PG1aax", 7);
        // The first of two, and not what comes behind it.
        notTaken("q;PX0aa", 3);
        notTaken("x", 0);
        for (int place = 7; place < 43; place++) {
            String text = textOf(7);
            notTaken(text.substring(0, place) + "!" + text.substring(place + 1), place);
        }
    }

    private static void eighth() {
        Document.part(1, "(the ; of an eighth RULE);");
        notTaken(textOf(7) + ";", 43);
        notTaken(textOf(8), 43);
        notTaken(textOf(7) + "q", 43);
        notTaken(textOf(8) + ";PG1aa;PG1", 43);
    }

    private static void endsTooSoon() {
        Document.part(1, "how many codes there are, if it just ends too soon.");
        for (int codes = 0; codes <= 42; codes++) {
            if (codes % 6 != 1 || codes == 1) notTaken(textOf(7).substring(0, codes), codes);
        }
        // There is no text behind the first fault, however soon it ends.
        notTaken("q;PG1ba", 6);
    }

    private static void codes() {
        Document.part(1, "(Codes: q 113, the kinds' P 80, B 66, W 87, the deeds' G 71, D 68, J 74, ; 59, "
            + "a .. z 97 .. 122, digits 49 .. 57.)");
        RangeRules x = new RangeRules();
        Due.row(x, 0, 2, 113, 59, 80, 71, 49, 97, 97, 59, 66, 68, 53, 109, 110, 59, 87, 74, 57, 122, 122);
        Due.is("rules", x.rules(0, 2, 0, 19), 3);
        int[][] dues = {{0, 0, 1, 0, 0}, {1, 1, 5, 12, 13}, {2, 2, 9, 25, 25}};
        for (int r = 0; r < 3; r++) {
            for (int what = 0; what < 5; what++) Due.is("rule " + r + ", " + what, x.ofRule(r, what), dues[r][what]);
        }
        // A number that would only be a code if it were cut is none.
        for (int place = 0; place < 7; place++) {
            for (int more : new int[] {256, -256, 65536, LEAST}) {
                RangeRules y = new RangeRules();
                Due.write(y, 0, 2, "q;PG5mm");
                y.put(0, place, "q;PG5mm".charAt(place) + more);
                Due.is(more + " more at " + place, y.rules(0, 2, 0, 7), -100 - place);
            }
        }
    }

    private static void kinds() {
        Document.part(1, "Kinds: 0 PLAIN (P); 1 BULKY (B), a PLAIN one; 2 DOUBLE (W), a BULKY one.");
        String letters = "PBW";
        for (int kind = 0; kind <= 2; kind++) {
            RangeRules x = Due.with("q;" + letters.charAt(kind) + "G5mm");
            Due.is("kind", x.ofRule(0, 0), kind);
            for (int as = 0; as <= 2; as++) Due.is("as(0, " + as + ")", x.as(0, as), as <= kind ? 1 : -12);
        }
    }

    private static void deeds() {
        Document.part(1, "DEEDS: 0 G, 1 D, 2 J.");
        String letters = "GDJ";
        for (int deed = 0; deed <= 2; deed++) {
            Due.is("deed", Due.with("q;P" + letters.charAt(deed) + "5mm").ofRule(0, 1), deed);
        }
    }

    private static void allAnew() {
        Document.part(1, "A TEXT that is taken makes all anew: no READINGS.");
        RangeRules x = Scene.of(SEVEN);
        Due.is("readings ahead", x.many(2), 2);
        Due.is("a text that is not taken", x.rules(0, 0, 0, 42), -142);
        Due.is("readings then", x.many(2), 2);
        Due.is("the first of its rules alone", x.rules(0, 0, 0, 7), 1);
        Due.is("readings behind", x.many(2), 0);
        Due.is("rules behind", x.many(0), 1);
        Due.is("none is left", x.ofRule(1, 0), UNKNOWN);
        Due.is("the next reading", x.reading(0, 1), 0);
        Due.is("the same text again", x.rules(0, 0, 0, 7), 1);
        Due.is("no reading either", x.many(2), 0);
        // It is a text alone that does so.
        RangeRules y = Scene.of(THREE);
        Due.is("number", y.number(0, 9), 3);
        Due.is("readings", y.many(2), 2);
        Due.is("insert", y.insert(0, 0, 0, 1, 0, 0), 4);
        Due.is("readings", y.many(2), 2);
        Due.is("swap", y.swap(2), 2);
        Due.is("readings", y.many(2), 2);
        Due.is("remove", y.remove(0), 3);
        Due.is("readings", y.many(2), 2);
    }

    private static void worth() {
        Document.part(1, "WORTH of a RULE: of a PLAIN one its NUMBER; of a BULKY one 1 more; "
            + "of a DOUBLE one twice what a PLAIN one's is.");
        for (int number = 1; number <= 9; number++) {
            Due.is("plain " + number, Due.with("q;PG" + number + "mm").ofRule(0, 5), number);
            Due.is("bulky " + number, Due.with("q;BG" + number + "mm").ofRule(0, 5), number + 1);
            Due.is("double " + number, Due.with("q;WG" + number + "mm").ofRule(0, 5), 2 * number);
        }
        // Its deed has no part in it.
        Due.is("one that denies", Due.with("q;WD9mm").ofRule(0, 5), 18);
        Due.is("one that asks on", Due.with("q;BJ9mm").ofRule(0, 5), 10);
    }

    private static void has() {
        Document.part(1, "A RULE HAS a POINT from LOW to HIGH.");
        int[][] ranges = {{0, 0}, {0, 25}, {25, 25}, {3, 3}, {3, 4}, {1, 24}};
        for (int[] range : ranges) {
            RangeRules x = Due.with("q;PG5" + (char) ('a' + range[0]) + (char) ('a' + range[1]));
            for (int p = 0; p < 26; p++) {
                Due.is("winner(" + p + ")", x.winner(p), p >= range[0] && p <= range[1] ? 0 : RangeRules.NONE);
            }
        }
    }

    private static void winner() {
        Document.part(1, "WINNER of a POINT: the first RULE that HAS it.");
        RangeRules x = Due.with("q;PD1cc;PJ2bd;PG3ae;PG4az");
        int[] dues = {2, 1, 0, 1, 2, 3};
        for (int p = 0; p < dues.length; p++) Due.is("winner(" + p + ")", x.winner(p), dues[p]);
        Due.is("the last point", x.winner(25), 3);
        Due.is("the last rule of seven", Due.with("q;PG1aa;PG1aa;PG1aa;PG1aa;PG1aa;PG1aa;PG1bb").winner(1), 6);
    }

    // ---- promises 1 and 2

    private static void newObject() {
        Document.promise(1, "No RULES");
        for (int what = 0; what <= 2; what++) Due.is("many(" + what + ")", new RangeRules().many(what), 0);
        Due.is("rule 0", new RangeRules().ofRule(0, 0), UNKNOWN);
        Due.is("winner", new RangeRules().winner(0), STATE);
        Document.promise(1, "SHEETS have nothing.");
        for (int k = 0; k < 4; k++) {
            Due.is("put", new RangeRules().put(k, 0, 0), -11);
            Due.is("lose", new RangeRules().lose(k), 0);
        }
    }

    private static void partOfARow() {
        Document.promise(2, "RULES by a TEXT of n cells of a SHEET from i on");
        for (int from : new int[] {0, 1, 16, 17}) {
            RangeRules x = new RangeRules();
            Due.is("sheet", x.sheet(3, 0, 60), 1);
            for (int i = 0; i < 43; i++) x.put(3, from + i, SEVEN.charAt(i));
            Due.is("from " + from + " on", x.rules(3, 0, from, 43), 7);
            Due.is("the last one's high", x.ofRule(6, 4), 25);
            Due.is("the first alone", x.rules(3, 0, from, 7), 1);
            Due.is("its number", x.ofRule(0, 2), 1);
        }
    }

    private static void lanes() {
        Document.promise(2, "taken as a row of a LANE:");
        for (int lane = 0; lane <= 2; lane++) {
            RangeRules x = new RangeRules();
            Due.write(x, 0, lane, SEVEN);
            Due.is("as lane " + lane, x.rules(0, lane, 0, 43), 7);
        }
    }

    private static void howMany() {
        Document.promise(2, "how many;");
        RangeRules x = new RangeRules();
        Due.write(x, 0, 0, SEVEN);
        for (int n = 7; n >= 1; n--) Due.is(n + " rules", x.rules(0, 0, 0, 1 + 6 * n), n);
        for (int n = 1; n <= 7; n++) Due.is(n + " rules", x.rules(0, 0, 0, 1 + 6 * n), n);
    }

    private static void lessTheFirstFault() {
        Document.promise(2, "-100 less the FIRST FAULT.");
        Scene.tellsOnly(SEVEN, -100, "rules", 0, 0, 0, 0);
        Scene.tellsOnly(SEVEN, -101, "rules", 0, 0, 0, 1);
        Scene.tellsOnly(SEVEN, -142, "rules", 0, 0, 0, 42);
        // The place is one of the text, not of the row.
        Scene.tellsOnly(SEVEN, -100, "rules", 0, 0, 1, 42);
        RangeRules x = new RangeRules();
        Due.write(x, 0, 0, "0123456789" + SEVEN + ";xxxxxx");
        Due.is("row of 60", x.rules(0, 0, 10, 50), -143);
        Due.is("no rules yet", x.many(0), 0);
    }

    private static void sheets() {
        Document.promise(2, "UNKNOWN;");
        for (int k : new int[] {LEAST, -1, 4, MOST}) {
            Scene.refuses(SEVEN, UNKNOWN, "rules", k, 0, 0, 7);
            Scene.refuses(SEVEN, UNKNOWN, "rules", k, 3, -1, -1);
        }
    }

    private static void wrongLanes() {
        Document.promise(2, "OUTSIDE: lane;");
        for (int lane : new int[] {LEAST, -1, 3, MOST}) {
            Scene.refuses(SEVEN, OUTSIDE, "rules", 0, lane, 0, 7);
            Scene.refuses(SEVEN, OUTSIDE, "rules", 0, lane, -1, -1);
            Scene.refuses(SEVEN, OUTSIDE, "rules", Scene.NOTHING, lane, 0, 7);
        }
    }

    private static void casts() {
        Document.promise(2, "FAULTS CAST");
        for (int row = 0; row <= 2; row++) {
            for (int lane = 0; lane <= 2; lane++) {
                if (lane == row) continue;
                Scene.faults(SEVEN, CAST, "rules", row, lane, 0, 1);
                Scene.faults(SEVEN, CAST, "rules", row, lane, 0, 0);
                Scene.faults(SEVEN, CAST, "rules", row, lane, 61, -1);
            }
        }
    }

    private static void nothing() {
        Document.promise(2, "(nothing is no CAST), NULL,");
        for (int lane = 0; lane <= 2; lane++) {
            Scene.faults(SEVEN, NULL, "rules", Scene.NOTHING, lane, 0, 7);
            Scene.faults(SEVEN, NULL, "rules", Scene.NOTHING, lane, -1, -1);
        }
    }

    private static void sizes() {
        Document.promise(2, "SIZE: n is below 0,");
        for (int n : new int[] {LEAST, -1}) {
            for (int i : new int[] {LEAST, -1, 0, 43, 44, MOST}) Scene.faults(SEVEN, SIZE, "rules", 0, 0, i, n);
        }
    }

    private static void indices() {
        Document.promise(2, "INDEX: not all cells are there;");
        int[][] wrong = {
            {0, 44}, {1, 43}, {42, 2}, {43, 1}, {44, 0}, {-1, 0}, {-1, 44}, {LEAST, 7}, {MOST, 1}, {1, MOST},
            {MOST, MOST}, {LEAST, MOST}};
        for (int[] w : wrong) Scene.faults(SEVEN, INDEX, "rules", 0, 0, w[0], w[1]);
        Scene.tellsOnly(SEVEN, -100, "rules", 0, 0, 43, 0);
        Scene.tellsOnly(SEVEN, -100, "rules", 0, 0, 42, 1);
    }

    private static void faultsAheadOfFirstFault() {
        Document.promise(2, "-100 less it.");
        // What would be a first fault at 0 is not come to.
        Scene.faults(SEVEN, CAST, "rules", Scene.SHORTS, 0, 0, 4);
        Scene.faults(SEVEN, SIZE, "rules", Scene.SHORTS, 1, 0, -1);
        Scene.faults(SEVEN, INDEX, "rules", Scene.SHORTS, 1, 0, 5);
        Scene.tellsOnly(SEVEN, -100, "rules", Scene.SHORTS, 1, 0, 4);
    }
}
