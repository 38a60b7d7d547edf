import java.util.Arrays;

/** The day in part 2 of the terms, with promise 10. */
final class EdgeDay {
    private static final int UNKNOWN = RangeRules.UNKNOWN, OUTSIDE = RangeRules.OUTSIDE;
    private static final int STATE = RangeRules.STATE, NONE = RangeRules.NONE;
    private static final int NULL = 1, CAST = 2, INDEX = 3;
    private static final int LEAST = Integer.MIN_VALUE, MOST = Integer.MAX_VALUE;
    private static final String NO_RULES = Scene.NO_RULES, THREE = Scene.THREE, SEVEN = Scene.SEVEN;
    private static final int[] ALL_BUT_FIRST_WRONG = {0, 2, 3, 4, 10, 35};

    private EdgeDay() {
    }

    static void all() {
        oneBehindAnother();
        nothingIsChanged();
        numberActs();
        takeAwayActs();
        changeActs();
        firstWrongIsTheFirst();
        noSuchRule();
        theOnlyOne();
        pairs();
        denied();
        firstWrong();
        shadowed();
        runs();
        together();
        pointsThen();
        lessTheFirstWrong();
        sheets();
        lanes();
        howManyPairs();
        whats();
        casts();
        nothing();
        indices();
        withoutRules();
        pairsOutside();
        pairsOutsideAheadOfFirstWrong();
    }

    /** What a day of these pairs answers, on an object with these rules. */
    private static int day(String text, int what, int... pairs) {
        RangeRules x = Due.with(text);
        Due.row(x, 1, 2, pairs);
        return x.day(1, 2, 0, pairs.length / 2, what);
    }

    private static void dayIs(int due, String text, int what, int... pairs) {
        Due.is("day " + Arrays.toString(pairs) + " on " + text + ", what " + what, day(text, what, pairs), due);
    }

    /** What the points of a day's last rules are worth, one by one. */
    private static void worths(String text, int[] pairs, int... dues) {
        for (int p = 0; p < dues.length; p++) dayIs(dues[p], text, 10 + p, pairs);
    }

    // ---- the terms

    private static void oneBehindAnother() {
        Document.part(2, "A DAY told: a row of pairs, one behind another, from how all is now");
        String text = "q;PG1aa;PG2ab;PG3ac";
        worths(text, new int[] {}, 1, 2, 3, NONE);
        worths(text, new int[] {0, 10, 9, 0}, 9, 9, 3, NONE);
        worths(text, new int[] {9, 0, 0, 10}, 2, 2, 3, NONE);
        worths(text, new int[] {0, 20, 8, 0}, 8, 8, 3, NONE);
        worths(text, new int[] {8, 0, 0, 20}, 2, 2, 3, NONE);
        worths(text, new int[] {7, 0, 8, 0}, 8, 2, 3, NONE);
        RangeRules x = Due.with(text);
        Due.row(x, 1, 2, 0, 10);
        Due.is("ahead", x.day(1, 2, 0, 1, 10), 2);
        Due.is("remove", x.remove(0), 2);
        Due.is("from how all is now", x.day(1, 2, 0, 1, 10), 3);
        // Of rules that earlier days had, none is left.
        RangeRules y = Due.with(text);
        Due.row(y, 1, 2, 9, 2);
        Due.is("there are three", y.day(1, 2, 0, 1, 1), NONE);
        Due.is("remove", y.remove(2), 2);
        Due.is("there are two", y.day(1, 2, 0, 1, 1), 0);
        Due.is("c is denied", y.day(1, 2, 0, 0, 12), NONE);
    }

    private static void nothingIsChanged() {
        Document.part(2, "(nothing is changed):");
        for (int what : new int[] {0, 1, 2, 3, 4, 10}) {
            for (int[] pairs : new int[][] {{9, 0}, {0, 10}, {0, 20}, {9, 2, 0, 10, 0, 20, 0, 16}}) {
                RangeRules x = Due.with(THREE);
                Due.row(x, 1, 2, pairs);
                x.day(1, 2, 0, pairs.length / 2, what);
                Due.is("rules", x.many(0), 3);
                Due.is("numbers", x.ofRule(0, 2) * 100 + x.ofRule(1, 2) * 10 + x.ofRule(2, 2), 342);
                Due.is("lows", x.ofRule(0, 3) * 100 + x.ofRule(1, 3) * 10 + x.ofRule(2, 3), 32);
                Due.is("sum", x.whole(4), 53);
            }
        }
        // Days of none on all of the scenes, each held against an object without the day.
        Scene.tellsOnly(SEVEN, 1, "day", Scene.INTS, 2, 0, 0, 0);
        Scene.tellsOnly(SEVEN, NONE, "day", Scene.INTS, 2, 1, 1, 1);
    }

    private static void numberActs() {
        Document.part(2, "1 .. 9 and 0 .. 6: NUMBER of that RULE;");
        String text = "q;PG5aa;PG5bb;PG5cc;PG5dd;PG5ee;PG5ff;PG5gg";
        for (int number = 1; number <= 9; number++) {
            for (int r = 0; r <= 6; r++) {
                RangeRules x = Due.with(text);
                Due.row(x, 1, 2, number, r);
                for (int p = 0; p <= 6; p++) {
                    Due.is("point " + p, x.day(1, 2, 0, 1, 10 + p), p == r ? number : 5);
                }
            }
        }
    }

    private static void takeAwayActs() {
        Document.part(2, "0 and 10 .. 16: the RULE that is 10 less is taken away;");
        String text = "q;PG1aa;PG2bb;PG3cc;PG4dd;PG5ee;PG6ff;PG7gg";
        for (int r = 0; r <= 6; r++) {
            RangeRules x = Due.with(text);
            Due.row(x, 1, 2, 0, 10 + r);
            for (int p = 0; p <= 6; p++) Due.is("point " + p, x.day(1, 2, 0, 1, 10 + p), p == r ? NONE : p + 1);
        }
    }

    private static void changeActs() {
        Document.part(2, "k (0 .. 5) and 20: RULES k and k and 1 change places.");
        // Rule r has a up to the r-th point behind it, so it wins that one, and is worth one more.
        String text = "q;PG1aa;PG2ab;PG3ac;PG4ad;PG5ae;PG6af;PG7ag";
        for (int k = 0; k <= 5; k++) {
            RangeRules x = Due.with(text);
            Due.row(x, 1, 2, k, 20);
            for (int p = 0; p <= 6; p++) {
                Due.is("point " + p, x.day(1, 2, 0, 1, 10 + p), p == k ? p + 2 : p + 1);
            }
        }
        // The last one comes to the front, step by step.
        worths(text, new int[] {5, 20, 4, 20, 3, 20, 2, 20, 1, 20, 0, 20}, 7, 7, 7, 7, 7, 7, 7, NONE);
    }

    private static void firstWrongIsTheFirst() {
        Document.part(2, "FIRST WRONG: the first act that can't be");
        dayIs(0, THREE, 1, 1, 3, 1, 3);
        dayIs(1, THREE, 1, 1, 2, 1, 3, 1, 4, 1, 0);
        dayIs(2, THREE, 1, 0, 10, 0, 10, 0, 10);
        // It can be at first, but not any more as it comes.
        dayIs(1, THREE, 1, 0, 12, 1, 2);
        dayIs(NONE, THREE, 1, 1, 2, 0, 12);
        int[] twenty = new int[40];
        for (int p = 0; p < 20; p++) twenty[2 * p] = 1;
        dayIs(NONE, THREE, 1, twenty);
        twenty[39] = 3;
        dayIs(19, THREE, 1, twenty);
    }

    /** A text of so many rules. */
    private static String textOf(int rules) {
        return "q" + ";PG5az".repeat(rules);
    }

    private static void noSuchRule() {
        Document.part(2, "(there is no such RULE;");
        for (int rules = 1; rules <= 7; rules++) {
            String text = textOf(rules);
            for (int r = 0; r <= 6; r++) dayIs(r < rules ? NONE : 0, text, 1, 5, r);
            for (int r = 0; r <= 6; r++) dayIs(r < rules && rules > 1 ? NONE : 0, text, 1, 0, 10 + r);
            for (int k = 0; k <= 5; k++) dayIs(k + 1 < rules ? NONE : 0, text, 1, k, 20);
        }
    }

    private static void theOnlyOne() {
        Document.part(2, "the only one would be taken away).");
        dayIs(0, textOf(1), 1, 0, 10);
        dayIs(NONE, textOf(2), 1, 0, 10);
        dayIs(NONE, textOf(2), 1, 0, 11);
        dayIs(1, textOf(2), 1, 0, 11, 0, 10);
        dayIs(NONE, textOf(7), 1, 0, 10, 0, 10, 0, 10, 0, 10, 0, 10, 0, 10);
        dayIs(6, textOf(7), 1, 0, 10, 0, 10, 0, 10, 0, 10, 0, 10, 0, 10, 0, 10);
    }

    // ---- promise 10

    private static void pairs() {
        Document.promise(10, "A DAY of n pairs, that are cells of a SHEET from i on (2 n):");
        for (int lane = 0; lane <= 2; lane++) {
            RangeRules x = Due.with("q;PG5az");
            Due.is("sheet", x.sheet(3, lane, 60), 1);
            for (int i = 0; i < 60; i += 2) x.put(3, i, 1 + i / 2 % 9);
            // The pair from cell i on makes 1 + i / 2 % 9 of the number.
            Due.is("no pair", x.day(3, lane, 0, 0, 10), 5);
            Due.is("one pair", x.day(3, lane, 0, 1, 10), 1);
            Due.is("two pairs", x.day(3, lane, 0, 2, 10), 2);
            Due.is("twenty pairs", x.day(3, lane, 0, 20, 10), 2);
            Due.is("the last twenty", x.day(3, lane, 20, 20, 10), 3);
            Due.is("the last one", x.day(3, lane, 58, 1, 10), 3);
            Due.is("none, behind the last", x.day(3, lane, 60, 0, 10), 5);
        }
        RangeRules odd = Due.with("q;PG5az");
        Due.row(odd, 1, 2, -7, 3, 0, -7);
        Due.is("from an odd place on", odd.day(1, 2, 1, 1, 10), 3);
    }

    private static void denied() {
        Document.promise(10, "how many POINTS are DENIED then (what 0),");
        dayIs(0, "q;PG5az", 0);
        dayIs(26, "q;PG5az;PD5az", 0, 0, 10);
        dayIs(0, "q;PD5az;PG5az", 0, 0, 20);
        dayIs(1, "q;PG5az;PG5ay", 0, 0, 10);
        // z asks for a number beyond the points, by any number; y only from 2 on.
        dayIs(1, "q;PJ9az;PG5az", 0, 1, 0);
        dayIs(9, "q;PJ1az;PG5az", 0, 9, 0);
    }

    private static void firstWrong() {
        Document.promise(10, "its FIRST WRONG (1; NONE),");
        dayIs(NONE, THREE, 1);
        dayIs(NONE, THREE, 1, 9, 2);
        dayIs(0, THREE, 1, 9, 3);
        dayIs(1, THREE, 1, 9, 2, 9, 3);
        Due.is("it is no fault", Scene.of(THREE).day(2, 2, 1, 1, 1), NONE);
    }

    private static void shadowed() {
        Document.promise(10, "SHADOWED ones then, as a set (2),");
        dayIs(0, "q;PG1aa;PG2bb", 2);
        dayIs(2, "q;PG1aa;PG2az", 2, 0, 20);
        dayIs(0, "q;PG1az;PG2aa", 2, 0, 10);
        dayIs(0b1111110, textOf(7), 2);
        dayIs(0b111110, textOf(7), 2, 0, 16);
        dayIs(0, textOf(2), 2, 0, 10);
    }

    private static void runs() {
        Document.promise(10, "how many RUNS there are then (3),");
        dayIs(1, "q;PG1az", 3);
        dayIs(2, "q;PG1zz", 3);
        dayIs(15, "q;PG1bb;PG1dd;PG1ff;PG1hh;PG1jj;PG1ll;PG1nn", 3);
        dayIs(13, "q;PG1bb;PG1dd;PG1ff;PG1hh;PG1jj;PG1ll;PG1nn", 3, 0, 16);
        dayIs(3, "q;PG1az;PG1mm", 3, 0, 20);
        dayIs(1, "q;PG1mm;PG1az", 3, 0, 20);
    }

    private static void together() {
        Document.promise(10, "what all POINTS together are worth then (4; DENIED ones 0),");
        dayIs(0, "q;PD1az", 4, 9, 0);
        dayIs(26 * 18, "q;WG1az", 4, 9, 0);
        dayIs(9, "q;PG1zz", 4, 9, 0);
        dayIs(25 * 2, "q;PD1aa;PG1az", 4, 2, 1);
        dayIs(26, "q;PD1aa;PG1az", 4, 0, 10);
    }

    private static void pointsThen() {
        Document.promise(10, "what POINT x is worth then (10 and x; NONE);");
        RangeRules x = Due.with("q;PG1aa;PG2zz");
        Due.row(x, 1, 2, 8, 0, 9, 1);
        Due.is("point 0", x.day(1, 2, 0, 2, 10), 8);
        for (int p = 1; p <= 24; p++) Due.is("point " + p, x.day(1, 2, 0, 2, 10 + p), NONE);
        Due.is("point 25", x.day(1, 2, 0, 2, 35), 9);
    }

    private static void lessTheFirstWrong() {
        Document.promise(10, "of one with a FIRST WRONG: -100 less that (but what 1).");
        int[] twenty = new int[40];
        for (int p = 0; p < 20; p++) twenty[2 * p] = 1;
        twenty[39] = 6;
        for (int what : ALL_BUT_FIRST_WRONG) {
            dayIs(-100, THREE, what, 1, 3);
            dayIs(-101, THREE, what, 1, 2, 1, 3);
            dayIs(-119, THREE, what, twenty);
        }
        dayIs(0, THREE, 1, 1, 3);
        dayIs(19, THREE, 1, twenty);
        RangeRules x = Due.with(THREE);
        Due.is("a fault", x.put(3, 0, 0), -11);
        Due.row(x, 1, 2, 1, 3);
        Due.is("a first wrong", x.day(1, 2, 0, 1, 0), -100);
        Due.is("is no fault of the machine", x.fault(), 0);
        Due.is("all is as it was", x.whole(4), 53);
    }

    private static void sheets() {
        Document.promise(10, "UNKNOWN: SHEET;");
        for (int k : new int[] {LEAST, -1, 4, MOST}) {
            Scene.refuses(SEVEN, UNKNOWN, "day", k, 2, 0, 0, 0);
            Scene.refuses(NO_RULES, UNKNOWN, "day", k, 3, -1, 21, 36);
        }
    }

    private static void lanes() {
        Document.promise(10, "OUTSIDE: lane,");
        for (int lane : new int[] {LEAST, -1, 3, MOST}) {
            Scene.refuses(SEVEN, OUTSIDE, "day", Scene.INTS, lane, 0, 0, 0);
            Scene.refuses(NO_RULES, OUTSIDE, "day", Scene.NOTHING, lane, 0, 0, 0);
        }
    }

    private static void howManyPairs() {
        Document.promise(10, "n (0 .. 20),");
        for (int n : new int[] {LEAST, -1, 21, 1 << 30, MOST}) {
            Scene.refuses(SEVEN, OUTSIDE, "day", Scene.INTS, 2, 0, n, 0);
            // Ahead of the faults.
            Scene.refuses(SEVEN, OUTSIDE, "day", Scene.NOTHING, 2, 0, n, 0);
            Scene.refuses(SEVEN, OUTSIDE, "day", Scene.INTS, 1, -1, n, 0);
        }
        RangeRules x = Due.with("q;PG5az");
        Due.is("sheet", x.sheet(1, 2, 60), 1);
        for (int i = 0; i < 60; i += 2) x.put(1, i, 7);
        Due.is("0", x.day(1, 2, 0, 0, 10), 5);
        Due.is("20", x.day(1, 2, 0, 20, 10), 7);
        Due.is("21, though all cells are there", x.day(1, 2, 0, 21, 10), OUTSIDE);
    }

    private static void whats() {
        Document.promise(10, "what (0 .. 4, 10 .. 35);");
        for (int what : new int[] {LEAST, -1, 5, 9, 36, MOST}) {
            Scene.refuses(SEVEN, OUTSIDE, "day", Scene.INTS, 2, 0, 0, what);
            Scene.refuses(SEVEN, OUTSIDE, "day", Scene.NOTHING, 2, 0, 0, what);
            Scene.refuses(NO_RULES, OUTSIDE, "day", Scene.INTS, 1, -1, 0, what);
        }
        int[] whats = {0, 1, 2, 3, 4, 10, 13, 35};
        int[] dues = {1, NONE, 64, 6, 233, 1, NONE, 12};
        for (int k = 0; k < whats.length; k++) {
            Scene.tellsOnly(SEVEN, dues[k], "day", Scene.INTS, 2, 0, 0, whats[k]);
        }
    }

    private static void casts() {
        Document.promise(10, "FAULTS CAST,");
        for (int row = 0; row <= 2; row++) {
            for (int lane = 0; lane <= 2; lane++) {
                if (lane == row) continue;
                Scene.faults(SEVEN, CAST, "day", row, lane, 0, 0, 0);
                Scene.faults(NO_RULES, CAST, "day", row, lane, -1, 20, 0);
            }
        }
    }

    private static void nothing() {
        Document.promise(10, "NULL,");
        for (int lane = 0; lane <= 2; lane++) {
            Scene.faults(SEVEN, NULL, "day", Scene.NOTHING, lane, 0, 0, 0);
            Scene.faults(NO_RULES, NULL, "day", Scene.NOTHING, lane, -1, 20, 1);
        }
    }

    private static void indices() {
        Document.promise(10, "INDEX;");
        // Of four shorts: two pairs and no more.
        int[][] wrong = {
            {0, 3}, {1, 2}, {3, 1}, {4, 1}, {5, 0}, {-1, 0}, {-1, 1}, {-2, 1}, {LEAST, 1}, {MOST, 1}, {MOST, 20},
            {MOST, 0}, {LEAST, 0}};
        for (int[] w : wrong) {
            Scene.faults(SEVEN, INDEX, "day", Scene.SHORTS, 1, w[0], w[1], 0);
            Scene.faults(NO_RULES, INDEX, "day", Scene.SHORTS, 1, w[0], w[1], 1);
        }
        Scene.tellsOnly(SEVEN, 1, "day", Scene.SHORTS, 1, 4, 0, 0);
        // All there: then it is the pairs that are not as told.
        Scene.refuses(SEVEN, OUTSIDE, "day", Scene.SHORTS, 1, 0, 2, 0);
    }

    private static void withoutRules() {
        Document.promise(10, "STATE: there are no RULES;");
        Scene.refuses(NO_RULES, STATE, "day", Scene.INTS, 2, 0, 0, 0);
        Scene.refuses(NO_RULES, STATE, "day", Scene.INTS, 2, 3, 0, 1);
        // Ahead of pairs that are not as told.
        Scene.refuses(NO_RULES, STATE, "day", Scene.SHORTS, 1, 0, 2, 0);
    }

    private static void pairsOutside() {
        Document.promise(10, "pair by pair OUTSIDE: the second is not 0 .. 6, 10 .. 16, 20, "
            + "the first is not as told with it.");
        int[] numbers = new int[30];
        for (int k = 0; k < 26; k++) numbers[k] = k - 2;
        numbers[26] = LEAST;
        numbers[27] = MOST;
        numbers[28] = 256;
        numbers[29] = -256;
        for (int first : numbers) {
            for (int second : numbers) {
                boolean act = second >= 0 && second <= 6 && first >= 1 && first <= 9
                    || second >= 10 && second <= 16 && first == 0
                    || second == 20 && first >= 0 && first <= 5;
                RangeRules x = Due.with(SEVEN);
                Due.row(x, 1, 2, 1, 0, first, second);
                String pair = "pair " + first + ", " + second;
                Due.is(pair, x.day(1, 2, 2, 1, 1), act ? NONE : OUTSIDE);
                Due.is(pair + " as the second one", x.day(1, 2, 0, 2, 1), act ? NONE : OUTSIDE);
                Due.is(pair + " as the second one, not taken", x.day(1, 2, 0, 1, 1), NONE);
                if (!act) Due.is(pair + ", what 0", x.day(1, 2, 0, 2, 0), OUTSIDE);
            }
        }
    }

    private static void pairsOutsideAheadOfFirstWrong() {
        Document.promise(10, "pair by pair OUTSIDE:");
        dayIs(OUTSIDE, THREE, 1, 0, 7, 1, 3);
        // The document may be read otherwise here (NOTES.md).
        dayIs(OUTSIDE, THREE, 1, 1, 3, 0, 7);
        dayIs(OUTSIDE, THREE, 0, 1, 3, 0, 7);
    }
}
