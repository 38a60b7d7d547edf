/** Part 3 of the terms with promises 11 and 12: runs, and the whole. */
final class EdgeWhole {
    private static final int UNKNOWN = RangeRules.UNKNOWN, OUTSIDE = RangeRules.OUTSIDE;
    private static final int STATE = RangeRules.STATE, NONE = RangeRules.NONE;
    private static final int LEAST = Integer.MIN_VALUE, MOST = Integer.MAX_VALUE;
    private static final String NO_RULES = Scene.NO_RULES, ONE = Scene.ONE, SEVEN = Scene.SEVEN;
    // b, d, f .. n are won, with points in between that nobody wins.
    private static final String GAPS = "q;PG1bb;PG1dd;PG1ff;PG1hh;PG1jj;PG1ll;PG1nn";

    private EdgeWhole() {
    }

    static void all() {
        runs();
        shadowed();
        needed();
        neededByDenial();
        neededByWorth();
        ofRun();
        ofRunWinner();
        ofNoRun();
        ofRunOutside();
        wholeRuns();
        wholeShadowed();
        wholeNeeded();
        wholeDenied();
        wholeWorth();
        wholeOutside();
        wholeWithoutRules();
    }

    private static void run(RangeRules x, int k, int first, int points, int winner) {
        Scene.answers(x, first, "ofRun", k, 0);
        Scene.answers(x, points, "ofRun", k, 1);
        Scene.answers(x, winner, "ofRun", k, 2);
    }

    // ---- the terms

    private static void runs() {
        Document.part(3, "RUNS, numbered from 0 on: POINTS one behind another that have the same WINNER (or none).");
        RangeRules all = Due.with("q;PG1az");
        Due.is("just one", all.many(1), 1);
        run(all, 0, 0, 26, 0);
        RangeRules split = Due.with("q;PG2mm;PG1az");
        Due.is("three", split.many(1), 3);
        run(split, 0, 0, 12, 1);
        run(split, 1, 12, 1, 0);
        run(split, 2, 13, 13, 1);
        // By who wins, not by what it is worth.
        RangeRules alike = Due.with("q;PG1am;PG1nz");
        Due.is("two", alike.many(1), 2);
        run(alike, 0, 0, 13, 0);
        run(alike, 1, 13, 13, 1);
        RangeRules unlike = Due.with("q;PJ1az;PG1bb;PG2cc");
        Due.is("one, though worth other numbers", unlike.many(1), 1);
        RangeRules ends = Due.with("q;PG1aa;PG1zz");
        run(ends, 0, 0, 1, 0);
        run(ends, 1, 1, 24, NONE);
        run(ends, 2, 25, 1, 1);
    }

    private static void shadowed() {
        Document.part(3, "SHADOWED: a RULE that is no POINT's WINNER.");
        Due.is("none", Due.with("q;PG1ay;PG1az").whole(1), 0);
        Due.is("by one", Due.with("q;PG1az;PG1az").whole(1), 2);
        Due.is("by two together", Due.with("q;PG1am;PG1nz;PG1lo").whole(1), 4);
        Due.is("one point is left", Due.with("q;PG1al;PG1nz;PG1lo").whole(1), 0);
        // One that is only asked on by others wins nothing.
        Due.is("needed, but shadowed", Due.with("q;PJ1az;PG1az").whole(1), 2);
    }

    private static void needed() {
        Document.part(3, "NEEDED: a RULE without which (all others as they are, in their order)");
        Due.is("without 0 it is 1 that wins", Due.with("q;PG3aa;PG3aa;PG1aa").whole(2), 0);
        Due.is("without 0 it is 1 that wins, too", Due.with("q;PG3aa;PG1aa;PG3aa").whole(2), 1);
        Due.is("the only rule", Due.with("q;PG3zz").whole(2), 1);
        Due.is("the only rule, that denies", Due.with("q;PD3az").whole(2), 0);
        Due.is("the only rule, that asks on", Due.with("q;PJ3az").whole(2), 0);
        // Either of two alike can be done without, but not both.
        Due.is("two alike", Due.with("q;PG3az;PG3az").whole(2), 0);
    }

    private static void neededByDenial() {
        Document.part(3, "some POINT that is not DENIED would be, or one that is would not be,");
        Due.is("z would be denied", Due.with("q;PG1ay;PG1az").whole(2), 2);
        Due.is("a would be denied", Due.with("q;PG1bz;PG1az").whole(2), 2);
        Due.is("z would not be", Due.with("q;PD1zz;PG1az").whole(2), 3);
        Due.is("a would not be", Due.with("q;PD1aa;PG1az").whole(2), 3);
        Due.is("denied all the same, by another", Due.with("q;PD1az;PD2az").whole(2), 0);
        Due.is("denied all the same, by nobody", Due.with("q;PG1ay;PD1zz").whole(2), 1);
    }

    private static void neededByWorth() {
        Document.part(3, "or one would be worth another number.");
        Due.is("one less", Due.with("q;PG2zz;PG1az").whole(2), 3);
        Due.is("the same by another kind", Due.with("q;BG1az;WG1az").whole(2), 0);
        Due.is("for one that asks on", Due.with("q;PJ1yy;PG2zz;PG1zz;PG4yy").whole(2), 0b11);
        // 0 and what it asks for are together what 2 is.
        Due.is("the same together", Due.with("q;PJ1aa;PG1bb;PG2aa;PG1bb").whole(2), 0);
    }

    // ---- promise 11

    private static void ofRun() {
        Document.promise(11, "Of a RUN: 0 its first POINT, 1 how many POINTS it has,");
        int[][] dues = {{0, 3}, {3, 1}, {4, 4}, {8, 4}, {12, 1}, {13, 13}};
        for (int k = 0; k < 6; k++) {
            Scene.tellsOnly(SEVEN, dues[k][0], "ofRun", k, 0);
            Scene.tellsOnly(SEVEN, dues[k][1], "ofRun", k, 1);
        }
        RangeRules x = Due.with(GAPS);
        for (int k = 0; k < 14; k++) run(x, k, k, 1, k % 2 == 0 ? NONE : k / 2);
        run(x, 14, 14, 12, NONE);
    }

    private static void ofRunWinner() {
        Document.promise(11, "2 its WINNER (NONE: there is none).");
        for (int k = 0; k < 6; k++) Scene.tellsOnly(SEVEN, k, "ofRun", k, 2);
        Scene.tellsOnly(ONE, NONE, "ofRun", 0, 2);
        Scene.tellsOnly(ONE, 0, "ofRun", 1, 2);
        Scene.tellsOnly(ONE, NONE, "ofRun", 2, 2);
    }

    private static void ofNoRun() {
        Document.promise(11, "UNKNOWN;");
        for (int k : new int[] {LEAST, -1, 6, 25, 26, MOST}) {
            Scene.refuses(SEVEN, UNKNOWN, "ofRun", k, 0);
            Scene.refuses(SEVEN, UNKNOWN, "ofRun", k, 3);
        }
        Scene.refuses(GAPS, UNKNOWN, "ofRun", 15, 0);
        Scene.refuses("q;PG1az", UNKNOWN, "ofRun", 1, 0);
        Scene.refuses(NO_RULES, UNKNOWN, "ofRun", 0, 0);
        Scene.refuses(NO_RULES, UNKNOWN, "ofRun", -1, 0);
    }

    private static void ofRunOutside() {
        Document.promise(11, "OUTSIDE.");
        for (int what : new int[] {LEAST, -1, 3, MOST}) Scene.refuses(SEVEN, OUTSIDE, "ofRun", 5, what);
    }

    // ---- promise 12

    private static void wholeRuns() {
        Document.promise(12, "Of all: 0 how many RUNS,");
        Scene.tellsOnly(SEVEN, 6, "whole", 0);
        Scene.tellsOnly(GAPS, 15, "whole", 0);
        Scene.tellsOnly("q;PG1az", 1, "whole", 0);
    }

    private static void wholeShadowed() {
        Document.promise(12, "1 SHADOWED ones, as a set,");
        Scene.tellsOnly(SEVEN, 1 << 6, "whole", 1);
        Scene.tellsOnly(GAPS, 0, "whole", 1);
        Scene.tellsOnly("q;PG1az;PG1aa;PG1az;PG1zz;PG1az;PG1az;PG1az", 0b1111110, "whole", 1);
    }

    private static void wholeNeeded() {
        Document.promise(12, "2 NEEDED ones, as a set,");
        Scene.tellsOnly(SEVEN, 0b111101, "whole", 2);
        Scene.tellsOnly(GAPS, 0b1111111, "whole", 2);
        Scene.tellsOnly("q;PD1az", 0, "whole", 2);
    }

    private static void wholeDenied() {
        Document.promise(12, "3 how many POINTS are DENIED,");
        Scene.tellsOnly(SEVEN, 1, "whole", 3);
        Scene.tellsOnly(GAPS, 19, "whole", 3);
        Scene.tellsOnly("q;PG1az", 0, "whole", 3);
        Scene.tellsOnly("q;PD1az", 26, "whole", 3);
        Scene.tellsOnly("q;PJ1az", 26, "whole", 3);
    }

    private static void wholeWorth() {
        Document.promise(12, "4 what all POINTS together are worth (DENIED ones 0).");
        Scene.tellsOnly(SEVEN, 233, "whole", 4);
        Scene.tellsOnly(GAPS, 7, "whole", 4);
        Scene.tellsOnly("q;PD1az", 0, "whole", 4);
        Scene.tellsOnly("q;WG9az", 26 * 18, "whole", 4);
    }

    private static void wholeOutside() {
        Document.promise(12, "OUTSIDE;");
        for (int what : new int[] {LEAST, -1, 5, MOST}) {
            Scene.refuses(SEVEN, OUTSIDE, "whole", what);
            Scene.refuses(NO_RULES, OUTSIDE, "whole", what);
        }
    }

    private static void wholeWithoutRules() {
        Document.promise(12, "STATE: there are no RULES.");
        for (int what = 0; what <= 4; what++) Scene.refuses(NO_RULES, STATE, "whole", what);
    }
}
