/** The terms ahead of the parts: refusals, faults, and how numbers are told; and the face's constants. */
final class EdgeTerms {
    private static final int UNKNOWN = RangeRules.UNKNOWN, OUTSIDE = RangeRules.OUTSIDE;
    private static final int STATE = RangeRules.STATE, FULL = RangeRules.FULL;
    private static final long LOST = RangeRules.LOST;
    private static final int NULL = 1, CAST = 2, INDEX = 3, SIZE = 4;
    private static final int LEAST = Integer.MIN_VALUE, MOST = Integer.MAX_VALUE;

    private EdgeTerms() {
    }

    static void all() {
        constants();
        lastCall();
        orderOfRefusals();
        orderOfFullOnes();
        refusalsChangeNothing();
        faultNull();
        faultCast();
        faultIndex();
        faultIndexOfNone();
        faultSize();
        firstFaultIsTold();
        faultAnswers();
        none();
        sets();
        shares();
    }

    private static void constants() {
        Document.sentence("The public face", "UNKNOWN = -1, OUTSIDE = -2, STATE = -3, FULL = -4, NONE = -9");
        int[] constants = {UNKNOWN, OUTSIDE, STATE, FULL, RangeRules.NONE};
        int[] dues = {-1, -2, -3, -4, -9};
        for (int k = 0; k < dues.length; k++) Due.is("constant " + k, constants[k], dues[k]);
        Document.sentence("The public face", "LOST = Long.MIN_VALUE");
        Due.is("LOST", LOST, Long.MIN_VALUE);
    }

    private static void lastCall() {
        Document.sentence("What it is", "An object is used for at most 512 calls after it has been made");
        RangeRules x = new RangeRules();
        Due.is("call 1", x.sheet(0, 0, 60), 1);
        for (int call = 2; call < 512; call++) Due.is("call " + call, x.put(0, call % 60, call % 100), 1);
        // Cell 31 was put at 511 last of all.
        Due.is("call 512", x.cell(0, 31, 0), 11);
    }

    private static void orderOfRefusals() {
        Document.terms("REFUSALS, in the order in which a call's line tells them: UNKNOWN (there is no such RULE, RUN, "
            + "SHEET, place of a row), OUTSIDE (another number is not as told), STATE (as told), FULL");
        Scene.refuses(Scene.THREE, UNKNOWN, "ofRule", 3, 7);
        Scene.refuses(Scene.THREE, UNKNOWN, "number", 3, 10);
        Scene.refuses(Scene.THREE, UNKNOWN, "ofRun", 3, 3);
        Scene.refuses(Scene.THREE, UNKNOWN, "as", 3, 3);
        Scene.refuses(Scene.THREE, UNKNOWN, "rules", 4, 3, 0, 0);
        Scene.refuses(Scene.THREE, UNKNOWN, "sheet", 4, 3, 61);
        Scene.refuses(Scene.NO_RULES, UNKNOWN, "day", 4, 3, 0, 21, 5);
        Scene.refuses(Scene.ONE, UNKNOWN, "remove", 1);
        Scene.refuses(Scene.NO_RULES, STATE, "insert", -1, 3, 3, 0, 26, -1);
        Scene.refuses(Scene.NO_RULES, STATE, "reading", 26, 201);
        Scene.refuses(Scene.NO_RULES, OUTSIDE, "winner", 26);
        Scene.refuses(Scene.NO_RULES, OUTSIDE, "ask", 26, 18);
        Scene.refuses(Scene.NO_RULES, OUTSIDE, "whole", 5);
        Scene.refuses(Scene.NO_RULES, OUTSIDE, "day", 0, 0, 0, 0, 5);
    }

    private static void orderOfFullOnes() {
        Document.terms("STATE (as told), FULL");
        Scene.refuses(Scene.SEVEN, OUTSIDE, "insert", 8, 0, 0, 1, 0, 0);
        Scene.refuses(Scene.SEVEN, FULL, "insert", 7, 0, 0, 1, 0, 0);
        RangeRules x = Scene.of(Scene.SEVEN);
        for (int k = 2; k < 8; k++) Due.is("reading", x.reading(0, 1), k);
        Due.is("outside ahead of full", x.reading(26, 1), OUTSIDE);
        Due.is("full", x.reading(25, 1), FULL);
    }

    private static void refusalsChangeNothing() {
        Document.terms("they change nothing (but fault(), of a call that names FAULTS)");
        Scene.refuses(Scene.SEVEN, UNKNOWN, "number", 7, 5);
        Scene.refuses(Scene.SEVEN, OUTSIDE, "number", 6, 10);
        Scene.refuses(Scene.SEVEN, FULL, "insert", 3, 1, 1, 1, 1, 1);
        Scene.refuses(Scene.THREE, OUTSIDE, "insert", 3, 1, 1, 1, 1, 26);
        Scene.refuses(Scene.SEVEN, UNKNOWN, "remove", 7);
        Scene.refuses(Scene.ONE, STATE, "remove", 0);
        Scene.refuses(Scene.SEVEN, UNKNOWN, "swap", 6);
        Scene.refuses(Scene.SEVEN, OUTSIDE, "reading", 0, 201);
        Scene.refuses(Scene.NO_RULES, STATE, "reading", 0, 0);
        Scene.refuses(Scene.SEVEN, OUTSIDE, "back", 3);
        Scene.refuses(Scene.SEVEN, UNKNOWN, "lose", 4);
        Scene.refuses(Scene.SEVEN, UNKNOWN, "tell", 7);
        Scene.refuses(Scene.SEVEN, UNKNOWN, "cite", 7);
        Scene.refuses(Scene.SEVEN, UNKNOWN, "rules", 4, 0, 0, 43);
        Scene.refuses(Scene.SEVEN, OUTSIDE, "day", 2, 2, 1, 1, 36);
        Scene.refuses(Scene.SEVEN, OUTSIDE, "sheet", 1, 1, 61);
        Scene.refuses(Scene.SEVEN, UNKNOWN, "put", 4, 0, 0);
        Scene.refuses(Scene.SEVEN, LOST, "cell", 4, 0, 0);
        Scene.refuses(Scene.SEVEN, UNKNOWN, "copy", 0, 0, 4, 0, 1);
        Scene.refuses(Scene.SEVEN, OUTSIDE, "as", 0, 3);
    }

    private static void faultNull() {
        Document.terms("FAULTS are the machine's: 1 NULL (there is nothing)");
        Scene.faults(Scene.THREE, NULL, "rules", Scene.NOTHING, 0, 0, 0);
        Scene.faults(Scene.THREE, NULL, "day", Scene.NOTHING, 0, 0, 0, 0);
        Scene.faults(Scene.THREE, NULL, "put", Scene.NOTHING, 0, 0);
        Scene.faults(Scene.THREE, NULL, "cell", Scene.NOTHING, 0, 0);
        Scene.faults(Scene.THREE, NULL, "copy", Scene.NOTHING, 0, Scene.NOTHING, 0, 0);
    }

    private static void faultCast() {
        Document.terms("2 CAST (it is of another lane, kind)");
        Scene.faults(Scene.THREE, CAST, "rules", 0, 1, 0, 19);
        Scene.faults(Scene.THREE, CAST, "day", Scene.INTS, 1, 0, 1, 0);
        Scene.faults(Scene.THREE, CAST, "cell", Scene.SHORTS, 0, 2);
        Scene.faults(Scene.THREE, CAST, "copy", Scene.SHORTS, 0, Scene.INTS, 0, 1);
        Scene.faults(Scene.THREE, CAST, "as", 1, 2);
    }

    private static void faultIndex() {
        Document.terms("3 INDEX (");
        for (int i : new int[] {LEAST, -1, 4, MOST}) {
            Scene.faults(Scene.THREE, INDEX, "put", Scene.SHORTS, i, 7);
            Scene.faults(Scene.THREE, INDEX, "cell", Scene.SHORTS, i, 1);
            Scene.faults(Scene.THREE, INDEX, "rules", Scene.SHORTS, 1, i, 1);
            Scene.faults(Scene.THREE, INDEX, "day", Scene.SHORTS, 1, i, 1, 0);
            Scene.faults(Scene.THREE, INDEX, "copy", Scene.SHORTS, i, Scene.SHORTS, 0, 1);
            Scene.faults(Scene.THREE, INDEX, "copy", Scene.SHORTS, 0, Scene.SHORTS, i, 1);
        }
    }

    private static void faultIndexOfNone() {
        Document.terms("of cells from i on also where i is not 0 .. how many there are, "
            + "if none of them is taken, too)");
        for (int i : new int[] {LEAST, -1, 5, MOST}) {
            Scene.faults(Scene.THREE, INDEX, "rules", Scene.SHORTS, 1, i, 0);
            Scene.faults(Scene.THREE, INDEX, "day", Scene.SHORTS, 1, i, 0, 0);
            Scene.faults(Scene.THREE, INDEX, "copy", Scene.SHORTS, i, Scene.SHORTS, 0, 0);
            Scene.faults(Scene.THREE, INDEX, "copy", Scene.SHORTS, 0, Scene.SHORTS, i, 0);
        }
        for (int i : new int[] {0, 4}) {
            Scene.tellsOnly(Scene.THREE, -100, "rules", Scene.SHORTS, 1, i, 0);
            Scene.tellsOnly(Scene.THREE, 19, "day", Scene.SHORTS, 1, i, 0, 0);
            Scene.tellsOnly(Scene.THREE, 0, "copy", Scene.SHORTS, i, Scene.SHORTS, 4 - i, 0);
        }
    }

    private static void faultSize() {
        Document.terms("4 SIZE (a length below 0).");
        for (int n : new int[] {LEAST, -1}) {
            Scene.faults(Scene.THREE, SIZE, "rules", 0, 0, 0, n);
            Scene.faults(Scene.THREE, SIZE, "sheet", 0, 0, n);
        }
        RangeRules x = Scene.of(Scene.THREE);
        Due.is("a length of 0", x.sheet(0, 0, 0), 1);
        Due.is("its fault", x.fault(), 0);
        Due.is("a text of 0", x.rules(0, 0, 0, 0), -100);
        Due.is("its fault", x.fault(), 0);
    }

    private static void firstFaultIsTold() {
        Document.terms("Of a call the first that is come to, in the order told");
        Scene.faults(Scene.THREE, NULL, "rules", Scene.NOTHING, 1, -1, -1);
        Scene.faults(Scene.THREE, CAST, "rules", 0, 1, -1, -1);
        Scene.faults(Scene.THREE, SIZE, "rules", 0, 0, -1, -1);
        Scene.faults(Scene.THREE, INDEX, "rules", 0, 0, -1, 1);
        Scene.faults(Scene.NO_RULES, CAST, "day", Scene.INTS, 0, -1, 1, 0);
        Scene.faults(Scene.NO_RULES, INDEX, "day", Scene.INTS, 2, -1, 1, 0);
        Scene.faults(Scene.THREE, CAST, "cell", Scene.INTS, 3, 1);
        Scene.faults(Scene.THREE, NULL, "copy", Scene.NOTHING, -1, Scene.INTS, -1, -1);
        Scene.faults(Scene.THREE, CAST, "copy", Scene.SHORTS, -1, Scene.INTS, -1, -1);
    }

    private static void faultAnswers() {
        Document.terms("it answers -10 less it (LOST, where a long is answered, as for refusals) and changes nothing; "
            + "fault() tells it.");
        RangeRules x = Scene.of(Scene.THREE);
        Due.is("NULL", x.put(Scene.NOTHING, 0, 0), -11);
        Due.is("fault()", x.fault(), 1);
        Due.is("CAST", x.as(0, 1), -12);
        Due.is("fault()", x.fault(), 2);
        Due.is("INDEX", x.put(0, 19, 0), -13);
        Due.is("fault()", x.fault(), 3);
        Due.is("SIZE", x.sheet(0, 0, -1), -14);
        Due.is("fault()", x.fault(), 4);
        Scene.faults(Scene.THREE, NULL, "cell", Scene.NOTHING, 0, 0);
        Scene.faults(Scene.THREE, CAST, "cell", 0, 0, 1);
        Scene.faults(Scene.THREE, INDEX, "cell", 0, 19, 0);
        Scene.refuses(Scene.THREE, LOST, "cell", -1, 0, 0);
        Scene.refuses(Scene.THREE, LOST, "odds", -1, 0);
    }

    private static void none() {
        Document.terms("NONE is -9.");
        RangeRules x = Due.with(Scene.ONE);
        Due.is("a point that nobody has", x.winner(0), -9);
        Due.is("what it is worth", x.ask(0, 0), -9);
        Due.is("whose its second denial is", x.ask(0, 11), -9);
        Due.is("who wins its run", x.ofRun(0, 2), -9);
        Due.is("read as denied", x.reading(0, -9), 0);
        Due.is("by any number", x.numbers(0), 0b1111111110);
    }

    private static void sets() {
        Document.terms("Sets are told as bits (bit k for number k).");
        RangeRules x = Due.with(Scene.SEVEN);
        Due.is("rule 6 alone is shadowed", x.whole(1), 1 << 6);
        Due.is("numbers 1 .. 9, no bit for 0", x.numbers(0), 0b1111111110);
        Due.is("kinds 0 .. 2", x.kinds(0), 0b111);
        Due.is("reading", x.reading(0, 9), 0);
        Due.is("number 9 alone", x.numbers(0), 1 << 9);
    }

    private static void shares() {
        Document.terms("Shares are told as upper and lower number (above 0) in least terms.");
        RangeRules none = Due.with("q;PD1az");
        Due.is("none: upper", none.odds(0, 0), 0);
        Due.is("none: lower", none.odds(0, 1), 1);
        RangeRules all = Due.with("q;PG1az");
        Due.is("all: upper", all.odds(0, 0), 1);
        Due.is("all: lower", all.odds(0, 1), 1);
        // a, then a and b, and so on up to z
        for (int points = 1; points <= 26; points++) {
            RangeRules x = Due.with("q;PG1a" + (char) ('a' + points - 1));
            int common = points == 26 ? 26 : points == 13 ? 13 : points % 2 == 0 ? 2 : 1;
            Due.is(points + " of 26: upper", x.odds(1, 0), points / common);
            Due.is(points + " of 26: lower", x.odds(1, 1), 26 / common);
        }
    }
}
