/** Promises 8 to 12: winners, asking, days, runs and the whole. */
public final class PointsTest {
    private static final int NONE = RangeRules.NONE;

    private PointsTest() {
    }

    public static void main(String[] args) {
        winner();
        askGivesAndDenies();
        askOn();
        askChains();
        askRefusals();
        dayActs();
        dayChangesNothing();
        dayFirstWrong();
        dayRefusalsAndFaults();
        dayPairsOutside();
        runs();
        whole();
        needed();
        Due.end("PointsTest");
    }

    private static void winner() {
        RangeRules x = Due.with("q;PD1ce;PG2ag;PJ3xz");
        int[] dues = {1, 1, 0, 0, 0, 1, 1, NONE};
        for (int p = 0; p < dues.length; p++) Due.is("winner(" + p + ")", x.winner(p), dues[p]);
        Due.is("winner(22)", x.winner(22), NONE);
        Due.is("winner(23)", x.winner(23), 2);
        Due.is("winner(25)", x.winner(25), 2);
        Due.is("winner(26)", x.winner(26), RangeRules.OUTSIDE);
        Due.is("winner(-1)", x.winner(-1), RangeRules.OUTSIDE);
        Due.is("the last one away", x.remove(2), 2);
        Due.is("it wins no more", x.winner(25), NONE);
        RangeRules none = new RangeRules();
        Due.is("no rules", none.winner(0), RangeRules.STATE);
        Due.is("outside ahead of that", none.winner(26), RangeRules.OUTSIDE);
    }

    private static void asked(RangeRules x, int point, int worth, int... whose) {
        String call = "ask(" + point + ", ";
        Due.is(call + "0)", x.ask(point, 0), worth);
        Due.is(call + "1)", x.ask(point, 1), whose.length);
        for (int k = 0; k <= 7; k++) {
            Due.is(call + (10 + k) + ")", x.ask(point, 10 + k), k < whose.length ? whose[k] : NONE);
        }
    }

    private static void askGivesAndDenies() {
        RangeRules x = Due.with("q;PD9bb;PG4aa;BG4bd;WG4ce");
        asked(x, 0, 4);
        asked(x, 1, NONE, 0);
        asked(x, 2, 5);
        asked(x, 4, 8);
        asked(x, 5, NONE, 7);
        asked(x, 25, NONE, 7);
    }

    private static void askOn() {
        // 0 asks 3 further along; what it asks for may be had by a rule behind it alone.
        RangeRules x = Due.with("q;PJ3ae;PG2de;BJ1ff;WG4gg;PD1hh");
        asked(x, 0, 5);
        asked(x, 1, 5);
        asked(x, 2, 3 + 2 + 8);
        asked(x, 3, 3 + 8);
        asked(x, 4, NONE, 0, 4);
        asked(x, 5, 2 + 8);
        // 1 asks on for 1 and 1, which 0 in front of it has: that one is not asked.
        RangeRules y = Due.with("q;PG5cc;PJ1bb");
        asked(y, 1, NONE, 1, 7);
        // Nobody has a number beyond the points.
        RangeRules z = Due.with("q;PJ1zz;PG5az");
        asked(z, 25, NONE, 0, 7);
        asked(z, 24, 5);
    }

    private static void askChains() {
        RangeRules x = Due.with("q;PJ1aa;PJ1bb;PJ1cc;PJ1dd;PJ1ee;PJ1ff;PJ1gg");
        asked(x, 0, NONE, 0, 1, 2, 3, 4, 5, 6, 7);
        asked(x, 3, NONE, 3, 4, 5, 6, 7);
        asked(x, 7, NONE, 7);
        RangeRules y = Due.with("q;WJ9aa;WJ9jj;WJ1ss;WJ1tt;WJ1uu;WJ1vv;WG9ww");
        asked(y, 0, 18 + 18 + 2 + 2 + 2 + 2 + 18);
        Due.is("deny in its place", y.insert(6, 0, 1, 1, 22, 22), RangeRules.FULL);
        Due.is("remove", y.remove(6), 6);
        Due.is("deny in its place", y.insert(6, 0, 1, 1, 22, 22), 7);
        asked(y, 0, NONE, 0, 1, 2, 3, 4, 5, 6);
    }

    private static void askRefusals() {
        RangeRules x = Due.with("q;PG5az");
        for (int what : new int[] {-1, 2, 9, 18, Integer.MIN_VALUE, Integer.MAX_VALUE}) {
            Due.is("what " + what, x.ask(0, what), RangeRules.OUTSIDE);
        }
        Due.is("point -1", x.ask(-1, 0), RangeRules.OUTSIDE);
        Due.is("point 26", x.ask(26, 0), RangeRules.OUTSIDE);
        RangeRules none = new RangeRules();
        Due.is("no rules", none.ask(25, 17), RangeRules.STATE);
        Due.is("outside ahead of that", none.ask(0, 2), RangeRules.OUTSIDE);
    }

    /** Of a day on sheet 1: what 0, 2, 3, 4 and what point 1 is worth. */
    private static void dayIs(RangeRules x, int lane, int[] pairs, int... dues) {
        Due.row(x, 1, lane, pairs);
        int[] whats = {0, 2, 3, 4, 11};
        int n = pairs.length / 2;
        for (int k = 0; k < whats.length; k++) {
            Due.is("day what " + whats[k], x.day(1, lane, 0, n, whats[k]), dues[k]);
        }
        Due.is("day what 1", x.day(1, lane, 0, n, 1), NONE);
        Due.is("fault after it", x.fault(), 0);
    }

    private static void dayActs() {
        // a, b are worth 2; c..e denied; f..z worth 9 + 1
        RangeRules x = Due.with("q;PG2ab;PD1ce;BG9az");
        dayIs(x, 2, new int[] {}, 3, 0, 3, 4 + 210, 2);
        dayIs(x, 0, new int[] {7, 0}, 3, 0, 3, 14 + 210, 7);
        dayIs(x, 1, new int[] {1, 2}, 3, 0, 3, 4 + 42, 2);
        dayIs(x, 2, new int[] {0, 11}, 0, 0, 2, 4 + 240, 2);
        dayIs(x, 2, new int[] {0, 20}, 3, 0, 3, 4 + 210, 2);
        dayIs(x, 2, new int[] {1, 20}, 0, 4, 2, 4 + 240, 2);
        dayIs(x, 2, new int[] {1, 20, 0, 20}, 0, 6, 1, 260, 10);
        // One behind another: the third comes up to 1, and its number is changed there.
        dayIs(x, 2, new int[] {0, 11, 3, 1, 0, 10}, 0, 0, 1, 26 * 4, 4);
        dayIs(x, 2, new int[] {0, 12, 0, 10}, 26, 0, 3, 0, NONE);
        Due.is("point 25 without", x.day(1, 2, 2, 1, 35), 10);
        Due.is("from cell 2 on: c..e denied", x.day(1, 2, 2, 1, 12), NONE);
        Due.is("none taken, from the end on", x.day(1, 2, 4, 0, 10), 2);
        int[] many = new int[40];
        for (int k = 0; k < 20; k++) {
            many[2 * k] = 1 + k % 9;
            many[2 * k + 1] = k % 3;
        }
        // The last ones are 1 for rule 0, 2 for rule 1 and 9 for rule 2.
        dayIs(x, 2, many, 3, 0, 3, 2 + 210, 1);
    }

    private static void dayChangesNothing() {
        RangeRules x = Due.with("q;PG2ab;PD1ce;BG9az");
        Due.row(x, 1, 2, 5, 0, 0, 11, 0, 20);
        Due.is("day", x.day(1, 2, 0, 3, 4), 260);
        Due.is("count", x.many(0), 3);
        Due.is("number", x.ofRule(0, 2), 2);
        Due.is("second", x.ofRule(1, 1), 1);
        Due.is("sum", x.whole(4), 4 + 210);
        Due.is("the same day again", x.day(1, 2, 0, 3, 4), 260);
    }

    private static void wrongDay(RangeRules x, int act, int... pairs) {
        Due.row(x, 1, 2, pairs);
        int n = pairs.length / 2;
        Due.is("first wrong", x.day(1, 2, 0, n, 1), act);
        for (int what : new int[] {0, 2, 3, 4, 10, 35}) {
            Due.is("of a wrong day " + what, x.day(1, 2, 0, n, what), -100 - act);
        }
        Due.is("fault of a wrong day", x.fault(), 0);
    }

    private static void dayFirstWrong() {
        RangeRules x = Due.with("q;PG2ab;PD1ce;BG9az");
        wrongDay(x, 0, 1, 3);
        wrongDay(x, 0, 1, 6);
        wrongDay(x, 0, 0, 13);
        wrongDay(x, 0, 0, 16);
        wrongDay(x, 0, 2, 20);
        wrongDay(x, 0, 5, 20);
        wrongDay(x, 1, 0, 12, 1, 2, 1, 0);
        wrongDay(x, 1, 0, 12, 1, 20);
        wrongDay(x, 2, 0, 12, 0, 10, 0, 10);
        wrongDay(x, 2, 0, 12, 0, 10, 0, 20, 0, 10);
        wrongDay(x, 3, 9, 2, 0, 11, 0, 10, 0, 11);
        Due.is("all still there", x.many(0), 3);
    }

    private static void dayRefusalsAndFaults() {
        RangeRules none = new RangeRules();
        Due.is("sheet ahead of all", none.day(4, 3, -1, 21, 5), RangeRules.UNKNOWN);
        Due.is("sheet -1", none.day(-1, 0, 0, 0, 0), RangeRules.UNKNOWN);
        Due.is("nothing", none.day(0, 0, 0, 0, 0), -11);
        Due.is("its fault", none.fault(), 1);
        Due.is("outside clears it", none.day(0, 0, 0, 0, 5), RangeRules.OUTSIDE);
        Due.is("cleared", none.fault(), 0);
        Due.row(none, 0, 0, 99, 99);
        Due.is("another lane", none.day(0, 1, 0, 2, 0), -12);
        Due.is("its fault", none.fault(), 2);
        Due.is("beyond", none.day(0, 0, 0, 2, 0), -13);
        Due.is("its fault", none.fault(), 3);
        Due.is("half beyond", none.day(0, 0, 1, 1, 0), -13);
        Due.is("from -1 on, none taken", none.day(0, 0, -1, 0, 0), -13);
        Due.is("from beyond, none taken", none.day(0, 0, 3, 0, 0), -13);
        Due.is("far beyond", none.day(0, 0, Integer.MAX_VALUE, 20, 0), -13);
        Due.is("no rules ahead of pairs", none.day(0, 0, 0, 1, 0), RangeRules.STATE);
        Due.is("cleared", none.fault(), 0);
        for (int what : new int[] {-1, 5, 9, 36, Integer.MIN_VALUE, Integer.MAX_VALUE}) {
            Due.is("what " + what, none.day(0, 0, 0, 0, what), RangeRules.OUTSIDE);
        }
        Due.is("lane -1", none.day(0, -1, 0, 0, 0), RangeRules.OUTSIDE);
        Due.is("lane 3", none.day(0, 3, 0, 0, 0), RangeRules.OUTSIDE);
        Due.is("n -1", none.day(0, 1, 0, -1, 0), RangeRules.OUTSIDE);
        Due.is("n 21", none.day(0, 1, 0, 21, 0), RangeRules.OUTSIDE);
        Due.is("lane of nothing", none.day(1, 3, 0, 0, 0), RangeRules.OUTSIDE);
    }

    private static void dayPairsOutside() {
        RangeRules x = Due.with("q;PG2ab;PD1ce;BG9az;PG1aa;PG1aa;PG1aa;PG1aa");
        int[][] wrong = {
            {0, 0}, {10, 0}, {0, 6}, {10, 6}, {1, -1}, {1, 7}, {0, 9}, {1, 10}, {-1, 16}, {0, 17}, {0, 19},
            {-1, 20}, {6, 20}, {0, 21}, {Integer.MIN_VALUE, 20}, {0, Integer.MAX_VALUE}};
        for (int[] pair : wrong) {
            Due.row(x, 1, 2, 1, 0, pair[0], pair[1]);
            for (int what : new int[] {0, 1, 35}) {
                Due.is("pair " + pair[0] + ", " + pair[1], x.day(1, 2, 0, 2, what), RangeRules.OUTSIDE);
            }
            Due.is("it is not taken", x.day(1, 2, 0, 1, 1), NONE);
            Due.is("it is the first", x.day(1, 2, 2, 1, 1), RangeRules.OUTSIDE);
        }
        int[][] right = {{1, 0}, {9, 6}, {0, 10}, {0, 16}, {0, 20}, {5, 20}};
        for (int[] pair : right) {
            Due.row(x, 1, 2, pair);
            Due.is("pair " + pair[0] + ", " + pair[1], x.day(1, 2, 0, 1, 1), NONE);
        }
        // A pair that is no act is refused, even behind an act that can't be.
        Due.is("only two are left", Due.rules(x, "q;PG2ab;PD1ce"), 2);
        Due.row(x, 1, 2, 0, 16, 0, 21);
        Due.is("refused ahead of first wrong", x.day(1, 2, 0, 2, 1), RangeRules.OUTSIDE);
    }

    private static void run(RangeRules x, int k, int first, int points, int winner) {
        Due.is("run " + k + " first", x.ofRun(k, 0), first);
        Due.is("run " + k + " points", x.ofRun(k, 1), points);
        Due.is("run " + k + " winner", x.ofRun(k, 2), winner);
    }

    private static void runs() {
        RangeRules x = Due.with("q;PG2cc;PD1af;BG9zz");
        Due.is("runs", x.whole(0), 5);
        run(x, 0, 0, 2, 1);
        run(x, 1, 2, 1, 0);
        run(x, 2, 3, 3, 1);
        run(x, 3, 6, 19, NONE);
        run(x, 4, 25, 1, 2);
        Due.is("run 5", x.ofRun(5, 0), RangeRules.UNKNOWN);
        Due.is("run -1", x.ofRun(-1, 3), RangeRules.UNKNOWN);
        Due.is("what 3", x.ofRun(0, 3), RangeRules.OUTSIDE);
        Due.is("what -1", x.ofRun(4, -1), RangeRules.OUTSIDE);
        Due.is("without rules", new RangeRules().ofRun(0, 0), RangeRules.UNKNOWN);
        RangeRules one = Due.with("q;PG2az");
        run(one, 0, 0, 26, 0);
        Due.is("just one", one.ofRun(1, 0), RangeRules.UNKNOWN);
        Due.is("far", one.ofRun(Integer.MAX_VALUE, 0), RangeRules.UNKNOWN);
        // Rules side by side with the same worth are runs of their own.
        Due.is("runs of two", Due.with("q;PG2am;PG2nz").whole(0), 2);
    }

    private static void whole() {
        RangeRules x = Due.with("q;PG2ab;PD1ce;BG9az;PG1aa");
        int[] dues = {3, 8, 7, 3, 4 + 210};
        for (int what = 0; what < dues.length; what++) {
            Due.is("whole(" + what + ")", x.whole(what), dues[what]);
        }
        Due.is("what 5", x.whole(5), RangeRules.OUTSIDE);
        Due.is("what -1", x.whole(-1), RangeRules.OUTSIDE);
        RangeRules none = new RangeRules();
        Due.is("no rules", none.whole(4), RangeRules.STATE);
        Due.is("outside ahead of that", none.whole(5), RangeRules.OUTSIDE);
    }

    private static void needed() {
        Due.is("the only one that gives", Due.with("q;PG2bb").whole(2), 1);
        Due.is("the only one, that denies what nobody has", Due.with("q;PD2az").whole(2), 0);
        Due.is("two alike", Due.with("q;PG2az;PG2az").whole(2), 0);
        Due.is("same worth of other kinds", Due.with("q;BG3az;WG2az").whole(2), 0);
        Due.is("another worth behind", Due.with("q;BG3az;PG3az").whole(2), 1);
        Due.is("denies what would be worth", Due.with("q;PD3az;PG3bb").whole(2), 1);
        RangeRules behind = Due.with("q;PJ1az;PG3az");
        Due.is("shadowed", behind.whole(1), 2);
        Due.is("and yet needed", behind.whole(2), 3);
        RangeRules x = Due.with("q;PJ1aa;PG3bc;PG5aa");
        Due.is("who asks on, in place of worth 5", x.whole(2), 3);
        // Only by whom it is denied would be another: not needed.
        Due.is("denied by another", Due.with("q;PJ1aa;PD1bb").whole(2), 0);
    }
}
