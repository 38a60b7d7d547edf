/** Part 4 of the terms with promises 13 to 17: readings, what kinds and numbers they leave, odds. */
final class EdgeWorth {
    private static final int UNKNOWN = RangeRules.UNKNOWN, OUTSIDE = RangeRules.OUTSIDE;
    private static final int STATE = RangeRules.STATE, FULL = RangeRules.FULL, NONE = RangeRules.NONE;
    private static final long LOST = RangeRules.LOST;
    private static final int LEAST = Integer.MIN_VALUE, MOST = Integer.MAX_VALUE;
    private static final String NO_RULES = Scene.NO_RULES, THREE = Scene.THREE, SEVEN = Scene.SEVEN;
    private static final int ALL_KINDS = 0b111, ALL_NUMBERS = 0b1111111110;

    private EdgeWorth() {
    }

    static void all() {
        eightAtMost();
        numbered();
        denied();
        inPlaceOfWhatItIs();
        kindsOfARule();
        numbersOfARule();
        share();
        reading();
        readingWithoutRules();
        readingPoints();
        readingWorths();
        readingFull();
        back();
        backAll();
        backOutside();
        kinds();
        kindsOfNoRule();
        numbers();
        numbersOfNoRule();
        odds();
        oddsOutside();
        oddsWithoutRules();
    }

    // ---- the terms

    private static void eightAtMost() {
        Document.part(4, "READINGS, 8 at most,");
        RangeRules x = Due.with("q;PG5az");
        for (int k = 0; k < 8; k++) Due.is("reading", x.reading(25, 5), k);
        Due.is("a ninth", x.reading(25, 5), FULL);
        Due.is("eight", x.many(2), 8);
        Due.is("one back", x.back(1), 7);
        Due.is("the eighth again", x.reading(25, 5), 7);
        Due.is("a ninth", x.reading(25, 5), FULL);
    }

    private static void numbered() {
        Document.part(4, "numbered by how many there are:");
        // How many there are as it comes; the document may be read otherwise here (NOTES.md).
        RangeRules x = Due.with("q;PG5az");
        Due.is("the first", x.reading(0, 5), 0);
        Due.is("the second", x.reading(0, 5), 1);
        Due.is("both back", x.back(2), 0);
        Due.is("the first again", x.reading(0, 5), 0);
    }

    private static void denied() {
        Document.part(4, "a POINT is worth v (NONE: it is DENIED).");
        RangeRules x = Due.with("q;PD5aa;PG5bb");
        x.reading(0, NONE);
        x.reading(1, 5);
        x.reading(2, NONE);
        Due.is("all are so", x.kinds(0), ALL_KINDS);
        x.reading(2, 0);
        Due.is("worth 0 is not denied", x.kinds(0), 0);
        x.back(1);
        x.reading(1, NONE);
        Due.is("worth 5 is not denied", x.kinds(0), 0);
    }

    private static void inPlaceOfWhatItIs() {
        Document.part(4, "All that follows: in place of what it is alone, by which all READINGS are so:");
        RangeRules x = Due.with("q;PG5aa;PG5bb");
        x.reading(0, 5);
        x.reading(1, 5);
        Due.is("kinds of 0", x.kinds(0), 1);
        Due.is("numbers of 0", x.numbers(0), 1 << 5);
        x.reading(1, 6);
        // Not what both together could be: one alone can't make all readings so.
        Due.is("kinds of 0", x.kinds(0), 0);
        Due.is("kinds of 1", x.kinds(1), 0);
        Due.is("numbers of 0", x.numbers(0), 0);
        Due.is("numbers of 1", x.numbers(1), 0);
        RangeRules y = Due.with("q;PG5aa;PG5bb");
        y.reading(0, 6);
        y.reading(1, 6);
        Due.is("each alone leaves the other's", y.kinds(0) + y.kinds(1) + y.numbers(0) + y.numbers(1), 0);
        // What it is itself has no part in it.
        RangeRules z = Due.with("q;WG5aa");
        z.reading(0, 5);
        Due.is("plain", z.kinds(0), 1);
        Due.is("a double one is never worth 5", z.numbers(0), 0);
    }

    private static void kindsOfARule() {
        Document.part(4, "KINDS of a RULE: 0 .. 2;");
        for (String kind : new String[] {"P", "B", "W"}) {
            RangeRules x = Due.with("q;" + kind + "G5az");
            Due.is("without readings", x.kinds(0), ALL_KINDS);
            x.reading(0, 5);
            Due.is("5", x.kinds(0), 1);
            x.back(1);
            x.reading(0, 6);
            Due.is("6", x.kinds(0), 1 << 1);
            x.back(1);
            x.reading(0, 10);
            Due.is("10", x.kinds(0), 1 << 2);
            x.back(1);
            x.number(0, 1);
            x.reading(0, 2);
            Due.is("2, of number 1", x.kinds(0), 0b110);
        }
    }

    private static void numbersOfARule() {
        Document.part(4, "NUMBERS: 1 .. 9; as sets.");
        String kinds = "PBW";
        for (int kind = 0; kind <= 2; kind++) {
            RangeRules x = Due.with("q;" + kinds.charAt(kind) + "G5az");
            Due.is("without readings", x.numbers(0), ALL_NUMBERS);
            for (int v = 0; v <= 20; v++) {
                x.reading(0, v);
                int set = 0;
                for (int number = 1; number <= 9; number++) {
                    int worth = kind == 0 ? number : kind == 1 ? number + 1 : 2 * number;
                    if (worth == v) set |= 1 << number;
                }
                Due.is("worth " + v, x.numbers(0), set);
                x.back(1);
            }
        }
        // What it asks for goes with its number, too.
        RangeRules y = Due.with("q;PJ1aa;PG9bb;PG1jj");
        y.reading(0, 10);
        Due.is("1 and 9, or 9 and 1", y.numbers(0), 1 << 1 | 1 << 9);
    }

    private static void share() {
        Document.part(4, "ODDS of v: of all POINTS, all alike, the share of those that are worth v or more.");
        RangeRules x = Due.with("q;PG1aa;PG2bb;PG3cm;PD9nz");
        oddsAre(x, 0, 1, 2);
        oddsAre(x, 1, 1, 2);
        oddsAre(x, 2, 6, 13);
        oddsAre(x, 3, 11, 26);
        oddsAre(x, 4, 0, 1);
    }

    private static void oddsAre(RangeRules x, int v, int upper, int lower) {
        Scene.answers(x, upper, "odds", v, 0);
        Scene.answers(x, lower, "odds", v, 1);
    }

    // ---- promise 13

    private static void reading() {
        Document.promise(13, "A READING: its number.");
        RangeRules x = Scene.of(SEVEN);
        for (int k = 2; k < 8; k++) {
            Due.is("reading", x.reading(k, 200), k);
            Due.is("how many", x.many(2), k + 1);
        }
    }

    private static void readingWithoutRules() {
        Document.promise(13, "STATE: there are no RULES;");
        Scene.refuses(NO_RULES, STATE, "reading", 0, 0);
        Scene.refuses(NO_RULES, STATE, "reading", -1, 0);
        Scene.refuses(NO_RULES, STATE, "reading", 0, 201);
    }

    private static void readingPoints() {
        Document.promise(13, "OUTSIDE: the POINT,");
        for (int p : new int[] {LEAST, -1, 26, MOST}) Scene.refuses(SEVEN, OUTSIDE, "reading", p, 0);
        for (int p : new int[] {0, 25}) Due.is("point " + p, Scene.of(SEVEN).reading(p, 0), 2);
    }

    private static void readingWorths() {
        Document.promise(13, "v (0 .. 200, NONE);");
        for (int v : new int[] {LEAST, -10, -8, -1, 201, MOST}) Scene.refuses(SEVEN, OUTSIDE, "reading", 0, v);
        for (int v : new int[] {0, 1, 200, NONE}) Due.is("v " + v, Scene.of(SEVEN).reading(0, v), 2);
    }

    private static void readingFull() {
        Document.promise(13, "FULL.");
        RangeRules x = Due.with("q;PG5az");
        for (int k = 0; k < 7; k++) x.reading(0, 5);
        Due.is("an eighth", x.reading(0, 5), 7);
        Due.is("a ninth", x.reading(0, 6), FULL);
        Due.is("a ninth, not as told", x.reading(0, 201), OUTSIDE);
        Due.is("a ninth, of no point", x.reading(26, 5), OUTSIDE);
        Due.is("eight", x.many(2), 8);
        Due.is("the ninth has no part", x.numbers(0), 1 << 5);
    }

    // ---- promise 14

    private static void back() {
        Document.promise(14, "The last n READINGS");
        RangeRules x = Due.with("q;PG5az");
        for (int v : new int[] {5, 5, 6, 7}) x.reading(0, v);
        Due.is("5 and 6 and 7", x.numbers(0), 0);
        Due.is("the last", x.back(1), 3);
        Due.is("5 and 6", x.numbers(0), 0);
        Due.is("the last", x.back(1), 2);
        Due.is("5", x.numbers(0), 1 << 5);
    }

    private static void backAll() {
        Document.promise(14, "(0 .. as many as there are) are taken back: how many are left.");
        Due.is("0 of none", new RangeRules().back(0), 0);
        for (int n = 0; n <= 8; n++) {
            RangeRules x = Due.with("q;PG5az");
            for (int k = 0; k < 8; k++) x.reading(0, 5);
            Due.is(n + " of 8", x.back(n), 8 - n);
            Due.is("left", x.many(2), 8 - n);
        }
        Scene.tellsOnly(SEVEN, 2, "back", 0);
    }

    private static void backOutside() {
        Document.promise(14, "OUTSIDE.");
        for (int n : new int[] {LEAST, -1, 3, 8, MOST}) Scene.refuses(SEVEN, OUTSIDE, "back", n);
        for (int n : new int[] {LEAST, -1, 1, MOST}) Scene.refuses(NO_RULES, OUTSIDE, "back", n);
    }

    // ---- promises 15 and 16

    private static void kinds() {
        Document.promise(15, "KINDS, as a set.");
        // a is worth 1 by rule 0, and z is worth 12 by rule 5: those are read.
        int[] dues = {1, ALL_KINDS, ALL_KINDS, ALL_KINDS, ALL_KINDS, 1 << 2, ALL_KINDS};
        for (int r = 0; r < 7; r++) Scene.tellsOnly(SEVEN, dues[r], "kinds", r);
        Due.is("the seventh's alone", seventh().kinds(6), 1 << 1);
    }

    private static RangeRules seventh() {
        RangeRules x = Due.with("q;PD1aa;PD1aa;PD1aa;PD1aa;PD1aa;PD1aa;BG8zz");
        x.reading(25, 9);
        return x;
    }

    private static void kindsOfNoRule() {
        Document.promise(15, "UNKNOWN.");
        for (int r : new int[] {LEAST, -1, 7, MOST}) Scene.refuses(SEVEN, UNKNOWN, "kinds", r);
        Scene.refuses(THREE, UNKNOWN, "kinds", 3);
        Scene.refuses(NO_RULES, UNKNOWN, "kinds", 0);
    }

    private static void numbers() {
        Document.promise(16, "NUMBERS, as a set.");
        int[] dues = {1 << 1, ALL_NUMBERS, ALL_NUMBERS, ALL_NUMBERS, ALL_NUMBERS, 1 << 6, ALL_NUMBERS};
        for (int r = 0; r < 7; r++) Scene.tellsOnly(SEVEN, dues[r], "numbers", r);
        Due.is("the seventh's alone", seventh().numbers(6), 1 << 8);
    }

    private static void numbersOfNoRule() {
        Document.promise(16, "UNKNOWN.");
        for (int r : new int[] {LEAST, -1, 7, MOST}) Scene.refuses(SEVEN, UNKNOWN, "numbers", r);
        Scene.refuses(THREE, UNKNOWN, "numbers", 3);
        Scene.refuses(NO_RULES, UNKNOWN, "numbers", 0);
    }

    // ---- promise 17

    private static void odds() {
        Document.promise(17, "ODDS of v (0 .. 200; which 0 the upper, 1 the lower number).");
        Scene.tellsOnly(SEVEN, 25, "odds", 0, 0);
        Scene.tellsOnly(SEVEN, 26, "odds", 0, 1);
        Scene.tellsOnly(SEVEN, 0, "odds", 200, 0);
        Scene.tellsOnly(SEVEN, 1, "odds", 200, 1);
        oddsAre(Due.with(SEVEN), 18, 1, 26);
        oddsAre(Due.with(SEVEN), 12, 7, 13);
    }

    private static void oddsOutside() {
        Document.promise(17, "LOST: OUTSIDE;");
        for (int v : new int[] {LEAST, -9, -1, 201, MOST}) Scene.refuses(SEVEN, LOST, "odds", v, 0);
        for (int which : new int[] {LEAST, -1, 2, MOST}) Scene.refuses(SEVEN, LOST, "odds", 0, which);
    }

    private static void oddsWithoutRules() {
        Document.promise(17, "STATE: there are no RULES.");
        for (int v : new int[] {0, 200}) {
            for (int which = 0; which <= 1; which++) Scene.refuses(NO_RULES, LOST, "odds", v, which);
        }
    }
}
