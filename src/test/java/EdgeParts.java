/** The telling and citing of part 5 of the terms, with promises 23 to 28. */
final class EdgeParts {
    private static final int UNKNOWN = RangeRules.UNKNOWN, OUTSIDE = RangeRules.OUTSIDE;
    private static final int CAST = 2;
    private static final int LEAST = Integer.MIN_VALUE, MOST = Integer.MAX_VALUE;
    private static final String NO_RULES = Scene.NO_RULES, THREE = Scene.THREE, SEVEN = Scene.SEVEN;

    private EdgeParts() {
    }

    static void all() {
        traceWraps();
        plain();
        bulky();
        doubled();
        lent();
        own();
        tell();
        tellUnknown();
        cite();
        citeUnknown();
        as();
        asUnknown();
        asOutside();
        asCast();
        trace();
        faultOfTheLatest();
        faultNone();
        faultRefused();
        faultAheadOfAny();
        manyRules();
        manyWithoutRules();
        manyOutside();
    }

    private static int leave(int trace, int... bodies) {
        int t = trace;
        for (int body : bodies) t = t * 31 + body;
        return t;
    }

    // ---- the terms

    private static void traceWraps() {
        Document.part(5, "TELLING of RULES by bodies that leave their number in TRACE (an int that wraps, 0 at first, "
            + "becomes 31 times it and the number) as they begin:");
        RangeRules x = Due.with("q;WG9zz");
        Due.is("at first", x.trace(), 0);
        int t = 0;
        boolean below = false;
        for (int k = 0; k < 60; k++) {
            x.tell(0);
            t = leave(t, 3, 2, 1, 1);
            x.cite(0);
            t = leave(t, 5);
            Due.is("trace", x.trace(), t);
            below |= t < 0;
        }
        Due.holds("it wrapped", below);
    }

    private static void told(String rule, int due, int... bodies) {
        RangeRules x = Due.with("q;" + rule);
        Due.is("tell of " + rule, x.tell(0), due);
        Due.is("its trace", x.trace(), leave(0, bodies));
    }

    private static void plain() {
        Document.part(5, "PLAIN (1): its NUMBER.");
        told("PG1aa", 1, 1);
        told("PD9zz", 9, 1);
    }

    private static void bulky() {
        Document.part(5, "BULKY (2): what PLAIN's gives, and 100.");
        told("BG1aa", 101, 2, 1);
        told("BJ9zz", 109, 2, 1);
    }

    private static void doubled() {
        Document.part(5, "DOUBLE (3): what BULKY's gives, and what PLAIN's gives (BULKY's left out).");
        told("WG1aa", 102, 3, 2, 1, 1);
        told("WJ9zz", 118, 3, 2, 1, 1);
    }

    private static void cited(String rule, int due, int body) {
        RangeRules x = Due.with("q;" + rule);
        Due.is("cite of " + rule, x.cite(0), due);
        Due.is("its trace", x.trace(), body);
    }

    private static void lent() {
        Document.part(5, "CITED by a lent body (4): LOW;");
        cited("PG5az", 0, 4);
        cited("PD5zz", 25, 4);
        cited("BG5az", 0, 4);
        cited("BJ5zz", 25, 4);
    }

    private static void own() {
        Document.part(5, "DOUBLE ones have their own (5): 60.");
        cited("WG5az", 60, 5);
        cited("WD5zz", 60, 5);
    }

    // ---- promises 23 and 24

    private static void tell() {
        Document.promise(23, "TELLING of a RULE.");
        int[] dues = {1, 102, 106, 4, 105, 112, 7};
        RangeRules x = Due.with(SEVEN);
        for (int r = 0; r < 7; r++) Scene.answers(x, dues[r], "tell", r);
        Due.is("trace", x.trace(), leave(0, 1, 2, 1, 3, 2, 1, 1, 1, 2, 1, 3, 2, 1, 1, 1));
    }

    private static void tellUnknown() {
        Document.promise(23, "UNKNOWN.");
        for (int r : new int[] {LEAST, -1, 7, MOST}) Scene.refuses(SEVEN, UNKNOWN, "tell", r);
        Scene.refuses(THREE, UNKNOWN, "tell", 3);
        Scene.refuses(NO_RULES, UNKNOWN, "tell", 0);
    }

    private static void cite() {
        Document.promise(24, "How it is CITED.");
        int[] dues = {0, 2, 60, 5, 12, 60, 0};
        RangeRules x = Due.with(SEVEN);
        for (int r = 0; r < 7; r++) Scene.answers(x, dues[r], "cite", r);
        Due.is("trace", x.trace(), leave(0, 4, 4, 5, 4, 4, 5, 4));
    }

    private static void citeUnknown() {
        Document.promise(24, "UNKNOWN.");
        for (int r : new int[] {LEAST, -1, 7, MOST}) Scene.refuses(SEVEN, UNKNOWN, "cite", r);
        Scene.refuses(THREE, UNKNOWN, "cite", 3);
        Scene.refuses(NO_RULES, UNKNOWN, "cite", 0);
    }

    // ---- promise 25

    private static void as() {
        Document.promise(25, "A RULE, taken as one of a kind: 1.");
        int[] kinds = {0, 1, 2, 0, 1, 2, 0};
        for (int r = 0; r < 7; r++) Scene.tellsOnly(SEVEN, 1, "as", r, kinds[r]);
    }

    private static void asUnknown() {
        Document.promise(25, "UNKNOWN;");
        for (int r : new int[] {LEAST, -1, 7, MOST}) {
            Scene.refuses(SEVEN, UNKNOWN, "as", r, 0);
            Scene.refuses(SEVEN, UNKNOWN, "as", r, 3);
        }
        Scene.refuses(THREE, UNKNOWN, "as", 3, 0);
        Scene.refuses(NO_RULES, UNKNOWN, "as", 0, 0);
    }

    private static void asOutside() {
        Document.promise(25, "OUTSIDE;");
        for (int kind : new int[] {LEAST, -1, 3, MOST}) {
            for (int r = 0; r < 3; r++) Scene.refuses(SEVEN, OUTSIDE, "as", r, kind);
        }
    }

    private static void asCast() {
        Document.promise(25, "CAST: it is none (each is a PLAIN one, too; a DOUBLE one is a BULKY one).");
        Scene.tellsOnly(SEVEN, 1, "as", 0, 0);
        Scene.faults(SEVEN, CAST, "as", 0, 1);
        Scene.faults(SEVEN, CAST, "as", 0, 2);
        Scene.tellsOnly(SEVEN, 1, "as", 1, 0);
        Scene.tellsOnly(SEVEN, 1, "as", 1, 1);
        Scene.faults(SEVEN, CAST, "as", 1, 2);
        for (int kind = 0; kind <= 2; kind++) Scene.tellsOnly(SEVEN, 1, "as", 2, kind);
    }

    // ---- promises 26 and 27

    private static void trace() {
        Document.promise(26, "TRACE.");
        Due.is("of a new object", new RangeRules().trace(), 0);
        Scene.tellsOnly(SEVEN, 1, "trace");
        RangeRules x = Scene.of(SEVEN);
        Due.is("a new text leaves it", x.rules(0, 0, 0, 7), 1);
        Due.is("trace", x.trace(), 1);
    }

    private static void faultOfTheLatest() {
        Document.promise(27, "The FAULT of the latest call that names one:");
        RangeRules x = Due.with(THREE);
        Due.is("NULL", x.put(3, 0, 0), -11);
        Due.is("fault()", x.fault(), 1);
        Due.is("CAST", x.as(0, 1), -12);
        Due.is("fault()", x.fault(), 2);
        Due.is("fault() again", x.fault(), 2);
        // Neither what they answer nor what they are refused for is one of those that name faults.
        for (int r : new int[] {0, 9}) {
            x.ofRule(r, 0);
            x.number(r, 3);
            x.insert(r, 0, 0, 1, 0, 0);
            x.remove(r);
            x.swap(r);
            x.winner(3 * r);
            x.ask(3 * r, 0);
            x.ofRun(r, 0);
            x.whole(r);
            x.reading(3 * r, 0);
            x.back(r);
            x.kinds(r);
            x.numbers(r);
            x.odds(0, r);
            x.lose(r);
            x.tell(r);
            x.cite(r);
            x.many(r);
        }
        x.trace();
        Due.is("still that", x.fault(), 2);
    }

    /** An object whose fault() is 3 and whose sheet 0 has a text. */
    private static RangeRules faulted() {
        return Scene.of(THREE);
    }

    private static void clears(String name, int... args) {
        RangeRules x = faulted();
        Due.is("a fault", x.fault(), 3);
        Scene.call(x, name, args);
        Due.is("fault() behind " + name, x.fault(), 0);
    }

    private static void faultNone() {
        Document.promise(27, "0: it came to none,");
        clears("rules", 0, 0, 0, 7);
        clears("rules", 0, 0, 0, 6);
        clears("day", 0, 0, 0, 0, 0);
        clears("sheet", 0, 0, 60);
        clears("put", 0, 0, 0);
        clears("cell", 0, 0, 0);
        clears("copy", 0, 0, 0, 0, 0);
        clears("as", 0, 0);
    }

    private static void faultRefused() {
        Document.promise(27, "or was refused");
        clears("rules", 4, 0, 0, 7);
        clears("rules", 0, 3, 0, 7);
        clears("day", 4, 0, 0, 0, 0);
        clears("day", 0, 0, 0, 21, 0);
        clears("day", 0, 0, 0, 1, 0);
        clears("sheet", 4, 0, 60);
        clears("sheet", 0, 0, 61);
        clears("put", 4, 0, 0);
        clears("cell", 4, 0, 0);
        clears("cell", 0, 0, 3);
        clears("copy", 4, 0, 0, 0, 0);
        clears("copy", 0, 0, 4, 0, 0);
        clears("as", 3, 0);
        clears("as", 0, 3);
        RangeRules none = Scene.of(NO_RULES);
        Due.is("without rules", none.day(0, 0, 0, 0, 0), RangeRules.STATE);
        Due.is("fault()", none.fault(), 0);
    }

    private static void faultAheadOfAny() {
        Document.promise(27, "(0 ahead of any).");
        RangeRules x = new RangeRules();
        Due.is("of a new object", x.fault(), 0);
        x.lose(0);
        x.tell(0);
        Due.is("behind calls that name none", x.fault(), 0);
    }

    // ---- promise 28

    private static void manyRules() {
        Document.promise(28, "How many: 0 RULES, 1 RUNS, 2 READINGS");
        int[] dues = {7, 6, 2};
        for (int what = 0; what <= 2; what++) Scene.tellsOnly(SEVEN, dues[what], "many", what);
    }

    private static void manyWithoutRules() {
        Document.promise(28, "(0 all without RULES).");
        for (int what = 0; what <= 2; what++) Scene.tellsOnly(NO_RULES, 0, "many", what);
    }

    private static void manyOutside() {
        Document.promise(28, "OUTSIDE.");
        for (int what : new int[] {LEAST, -1, 3, MOST}) {
            Scene.refuses(SEVEN, OUTSIDE, "many", what);
            Scene.refuses(NO_RULES, OUTSIDE, "many", what);
        }
    }
}
