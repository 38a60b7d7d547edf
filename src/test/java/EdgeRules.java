/** Promises 3 to 7: of a rule, its number, rules put in between, taken away, changing places. */
final class EdgeRules {
    private static final int UNKNOWN = RangeRules.UNKNOWN, OUTSIDE = RangeRules.OUTSIDE;
    private static final int STATE = RangeRules.STATE, FULL = RangeRules.FULL;
    private static final int LEAST = Integer.MIN_VALUE, MOST = Integer.MAX_VALUE;
    private static final String NO_RULES = Scene.NO_RULES, ONE = Scene.ONE, THREE = Scene.THREE, SEVEN = Scene.SEVEN;

    private EdgeRules() {
    }

    static void all() {
        ofRule();
        ofNoRule();
        ofRuleOutside();
        number();
        numberOfNoRule();
        numberOutside();
        insertPlaces();
        insertMovesOthers();
        insertHowMany();
        insertWithoutRules();
        insertPlacesOutside();
        insertKindsOutside();
        insertNumbersOutside();
        insertRangesOutside();
        insertFull();
        remove();
        removeNoRule();
        removeTheOnlyOne();
        swap();
        swapEither();
    }

    /** Numbers of the rules, as one decimal number, the first one's in front. */
    private static int order(RangeRules x) {
        int order = 0;
        for (int r = 0; r < x.many(0); r++) order = 10 * order + x.ofRule(r, 2);
        return order;
    }

    // ---- promise 3

    private static void ofRule() {
        Document.promise(3, "Of a RULE: 0 kind, 1 DEED, 2 NUMBER, 3 LOW, 4 HIGH, 5 WORTH, "
            + "6 how many POINTS it is WINNER of.");
        int[][] dues = {
            {0, 0, 1, 0, 2, 1, 3}, {1, 1, 2, 2, 3, 3, 1}, {2, 2, 3, 4, 7, 6, 4}, {0, 0, 4, 5, 11, 4, 4},
            {1, 2, 5, 12, 12, 6, 1}, {2, 0, 6, 11, 25, 12, 13}, {0, 1, 7, 0, 25, 7, 0}};
        RangeRules x = Due.with(SEVEN);
        for (int r = 0; r < 7; r++) {
            for (int what = 0; what <= 6; what++) Scene.answers(x, dues[r][what], "ofRule", r, what);
        }
        Due.is("winner of all points", Due.with("q;PG1az").ofRule(0, 6), 26);
        Due.is("winner of the last point", Due.with("q;PG1zz").ofRule(0, 6), 1);
    }

    private static void ofNoRule() {
        Document.promise(3, "UNKNOWN;");
        for (int r : new int[] {LEAST, -1, 7, MOST}) {
            Scene.refuses(SEVEN, UNKNOWN, "ofRule", r, 0);
            Scene.refuses(SEVEN, UNKNOWN, "ofRule", r, 7);
        }
        Scene.refuses(THREE, UNKNOWN, "ofRule", 3, 0);
        Scene.refuses(NO_RULES, UNKNOWN, "ofRule", 0, 0);
        RangeRules x = Due.with(SEVEN);
        Due.is("one away", x.remove(0), 6);
        Due.is("there is no seventh", x.ofRule(6, 0), UNKNOWN);
    }

    private static void ofRuleOutside() {
        Document.promise(3, "OUTSIDE.");
        for (int what : new int[] {LEAST, -1, 7, MOST}) Scene.refuses(SEVEN, OUTSIDE, "ofRule", 6, what);
    }

    // ---- promise 4

    private static void number() {
        Document.promise(4, "NUMBER of a RULE becomes v (1 .. 9): what it was.");
        RangeRules x = Due.with(SEVEN);
        Due.is("the least", x.number(6, 1), 7);
        Due.is("it is that", x.ofRule(6, 2), 1);
        Due.is("the most", x.number(6, 9), 1);
        Due.is("it is that", x.ofRule(6, 2), 9);
        Due.is("the same", x.number(6, 9), 9);
        Due.is("of the first", x.number(0, 9), 1);
        Due.is("of all", order(x), 9234569);
    }

    private static void numberOfNoRule() {
        Document.promise(4, "UNKNOWN;");
        for (int r : new int[] {LEAST, -1, 7, MOST}) {
            Scene.refuses(SEVEN, UNKNOWN, "number", r, 5);
            Scene.refuses(SEVEN, UNKNOWN, "number", r, 0);
        }
        Scene.refuses(THREE, UNKNOWN, "number", 3, 5);
        Scene.refuses(NO_RULES, UNKNOWN, "number", 0, 5);
    }

    private static void numberOutside() {
        Document.promise(4, "OUTSIDE.");
        for (int v : new int[] {LEAST, -1, 0, 10, MOST}) Scene.refuses(SEVEN, OUTSIDE, "number", 6, v);
    }

    // ---- promise 5

    private static void insertPlaces() {
        Document.promise(5, "A RULE is put in place k (0 .. how many there are),");
        for (int k = 0; k <= 3; k++) {
            RangeRules x = Due.with(THREE);
            Due.is("insert at " + k, x.insert(k, 1, 2, 9, 5, 6), 4);
            int[] dues = {1, 2, 9, 5, 6, 10};
            for (int what = 0; what < dues.length; what++) Scene.answers(x, dues[what], "ofRule", k, what);
        }
    }

    private static void insertMovesOthers() {
        Document.promise(5, "those from there on come behind it:");
        int[] orders = {9342, 3942, 3492, 3429};
        for (int k = 0; k <= 3; k++) {
            RangeRules x = Due.with(THREE);
            x.insert(k, 0, 0, 9, 0, 0);
            Due.is("order", order(x), orders[k]);
        }
    }

    private static void insertHowMany() {
        Document.promise(5, "how many there are then.");
        RangeRules x = Due.with(ONE);
        for (int n = 2; n <= 7; n++) {
            Due.is("insert", x.insert(n - 1, 0, 0, n, 0, 0), n);
            Due.is("many", x.many(0), n);
        }
        Due.is("order", order(x), 4234567);
    }

    private static void insertWithoutRules() {
        Document.promise(5, "STATE: there are no RULES;");
        Scene.refuses(NO_RULES, STATE, "insert", 0, 0, 0, 1, 0, 0);
        Scene.refuses(NO_RULES, STATE, "insert", 1, 0, 0, 1, 0, 0);
        Scene.refuses(NO_RULES, STATE, "insert", -1, -1, -1, 0, -1, -2);
    }

    private static void insertPlacesOutside() {
        Document.promise(5, "OUTSIDE: k,");
        for (int k : new int[] {LEAST, -1, 4, MOST}) Scene.refuses(THREE, OUTSIDE, "insert", k, 0, 0, 1, 0, 0);
        Scene.refuses(SEVEN, OUTSIDE, "insert", 8, 0, 0, 1, 0, 0);
    }

    private static void insertKindsOutside() {
        Document.promise(5, "kind, deed (0 .. 2),");
        for (int wrong : new int[] {LEAST, -1, 3, MOST}) {
            Scene.refuses(THREE, OUTSIDE, "insert", 0, wrong, 0, 1, 0, 0);
            Scene.refuses(THREE, OUTSIDE, "insert", 0, 0, wrong, 1, 0, 0);
            Scene.refuses(SEVEN, OUTSIDE, "insert", 0, wrong, 0, 1, 0, 0);
            Scene.refuses(SEVEN, OUTSIDE, "insert", 0, 0, wrong, 1, 0, 0);
        }
        for (int right = 0; right <= 2; right++) {
            RangeRules x = Due.with(THREE);
            Due.is("insert", x.insert(3, right, 2 - right, 1, 0, 0), 4);
            Due.is("kind", x.ofRule(3, 0), right);
            Due.is("deed", x.ofRule(3, 1), 2 - right);
        }
    }

    private static void insertNumbersOutside() {
        Document.promise(5, "number (1 .. 9),");
        for (int wrong : new int[] {LEAST, -1, 0, 10, MOST}) {
            Scene.refuses(THREE, OUTSIDE, "insert", 0, 0, 0, wrong, 0, 0);
            Scene.refuses(SEVEN, OUTSIDE, "insert", 0, 0, 0, wrong, 0, 0);
        }
        for (int right : new int[] {1, 9}) {
            RangeRules x = Due.with(THREE);
            Due.is("insert", x.insert(0, 0, 0, right, 0, 0), 4);
            Due.is("number", x.ofRule(0, 2), right);
        }
    }

    private static void insertRangesOutside() {
        Document.promise(5, "low, high (0 .. low .. high .. 25);");
        int[][] wrong = {
            {-1, 0}, {-1, -1}, {LEAST, 25}, {26, 26}, {25, 26}, {0, 26}, {0, MOST}, {MOST, MOST}, {1, 0}, {25, 24},
            {25, 0}, {0, -1}, {0, LEAST}};
        for (int[] w : wrong) {
            Scene.refuses(THREE, OUTSIDE, "insert", 0, 0, 0, 1, w[0], w[1]);
            Scene.refuses(SEVEN, OUTSIDE, "insert", 0, 0, 0, 1, w[0], w[1]);
        }
        int[][] right = {{0, 0}, {0, 25}, {25, 25}, {12, 12}, {12, 13}};
        for (int[] range : right) {
            RangeRules x = Due.with(THREE);
            Due.is("insert", x.insert(0, 0, 0, 1, range[0], range[1]), 4);
            Due.is("low", x.ofRule(0, 3), range[0]);
            Due.is("high", x.ofRule(0, 4), range[1]);
        }
    }

    private static void insertFull() {
        Document.promise(5, "FULL: there are 7.");
        for (int k = 0; k <= 7; k++) Scene.refuses(SEVEN, FULL, "insert", k, 0, 0, 1, 0, 0);
        RangeRules x = Due.with(SEVEN);
        Due.is("one away", x.remove(6), 6);
        Due.is("there is room", x.insert(6, 0, 0, 8, 0, 0), 7);
        Due.is("order", order(x), 1234568);
        Due.is("there is none", x.insert(7, 0, 0, 9, 0, 0), FULL);
        Due.is("order", order(x), 1234568);
    }

    // ---- promise 6

    private static void remove() {
        Document.promise(6, "A RULE is taken away, those behind it come up: how many are left.");
        int[] orders = {234567, 134567, 124567, 123567, 123467, 123457, 123456};
        for (int r = 0; r < 7; r++) {
            RangeRules x = Due.with(SEVEN);
            Due.is("remove " + r, x.remove(r), 6);
            Due.is("order", order(x), orders[r]);
        }
        RangeRules y = Due.with(SEVEN);
        for (int left = 6; left >= 1; left--) Due.is("the first", y.remove(0), left);
        Due.is("the last is left", order(y), 7);
    }

    private static void removeNoRule() {
        Document.promise(6, "UNKNOWN;");
        for (int r : new int[] {LEAST, -1, 7, MOST}) Scene.refuses(SEVEN, UNKNOWN, "remove", r);
        Scene.refuses(THREE, UNKNOWN, "remove", 3);
        Scene.refuses(NO_RULES, UNKNOWN, "remove", 0);
        Scene.refuses(ONE, UNKNOWN, "remove", 1);
        Scene.refuses(ONE, UNKNOWN, "remove", -1);
    }

    private static void removeTheOnlyOne() {
        Document.promise(6, "STATE: it is the only one.");
        Scene.refuses(ONE, STATE, "remove", 0);
        RangeRules x = Due.with(THREE);
        Due.is("remove", x.remove(2), 2);
        Due.is("of two", x.remove(1), 1);
        Due.is("of one", x.remove(0), STATE);
        Due.is("it is there", order(x), 3);
    }

    // ---- promise 7

    private static void swap() {
        Document.promise(7, "RULES r and r and 1 change places: r.");
        int[] orders = {2134567, 1324567, 1243567, 1235467, 1234657, 1234576};
        for (int r = 0; r <= 5; r++) {
            RangeRules x = Due.with(SEVEN);
            Due.is("swap(" + r + ")", x.swap(r), r);
            Due.is("order", order(x), orders[r]);
            Due.is("again", x.swap(r), r);
            Due.is("as it was", order(x), 1234567);
        }
    }

    private static void swapEither() {
        Document.promise(7, "UNKNOWN: either.");
        for (int r : new int[] {LEAST, -1, 6, 7, MOST - 1, MOST}) Scene.refuses(SEVEN, UNKNOWN, "swap", r);
        Scene.refuses(THREE, UNKNOWN, "swap", 2);
        Scene.refuses(THREE, UNKNOWN, "swap", 3);
        Scene.refuses(ONE, UNKNOWN, "swap", 0);
        Scene.refuses(ONE, UNKNOWN, "swap", -1);
        Scene.refuses(NO_RULES, UNKNOWN, "swap", 0);
        Scene.refuses(NO_RULES, UNKNOWN, "swap", -1);
    }
}
