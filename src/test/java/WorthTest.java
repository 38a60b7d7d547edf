/** Promises 13 to 17: readings, what kinds and numbers they leave, odds. */
public final class WorthTest {
    private static final int NONE = RangeRules.NONE;
    private static final int ALL_NUMBERS = 1022;

    private WorthTest() {
    }

    public static void main(String[] args) {
        readings();
        readingRefusals();
        back();
        kinds();
        kindsLeaveAllAsItWas();
        numbers();
        numbersOfOneThatAsksOn();
        odds();
        Due.end("WorthTest");
    }

    private static void readings() {
        RangeRules x = Due.with("q;PG5az");
        for (int k = 0; k < 8; k++) {
            Due.is("reading " + k, x.reading(k, 5), k);
            Due.is("how many", x.many(2), k + 1);
        }
        Due.is("a ninth", x.reading(0, 5), RangeRules.FULL);
        Due.is("still eight", x.many(2), 8);
        Due.is("three back", x.back(3), 5);
        Due.is("numbered by how many there are", x.reading(0, 5), 5);
        // What is not so is taken, too, and stays when rules change.
        Due.is("not so", x.reading(25, 200), 6);
        Due.is("number", x.number(0, 6), 5);
        Due.is("insert", x.insert(1, 0, 0, 1, 0, 0), 2);
        Due.is("swap", x.swap(0), 0);
        Due.is("remove", x.remove(0), 1);
        Due.is("all there", x.many(2), 7);
    }

    private static void readingRefusals() {
        RangeRules none = new RangeRules();
        Due.is("no rules", none.reading(-1, -1), RangeRules.STATE);
        RangeRules x = Due.with("q;PG5az");
        Due.is("point -1", x.reading(-1, 0), RangeRules.OUTSIDE);
        Due.is("point 26", x.reading(26, 0), RangeRules.OUTSIDE);
        for (int v : new int[] {-1, -8, -10, 201, Integer.MIN_VALUE}) {
            Due.is("v " + v, x.reading(0, v), RangeRules.OUTSIDE);
        }
        Due.is("none there", x.many(2), 0);
        Due.is("v 0", x.reading(0, 0), 0);
        Due.is("v 200", x.reading(25, 200), 1);
        Due.is("v NONE", x.reading(0, NONE), 2);
        for (int k = 3; k < 8; k++) x.reading(0, 5);
        Due.is("outside ahead of full", x.reading(0, 201), RangeRules.OUTSIDE);
    }

    private static void back() {
        RangeRules none = new RangeRules();
        Due.is("none of none", none.back(0), 0);
        Due.is("one of none", none.back(1), RangeRules.OUTSIDE);
        RangeRules x = Due.with("q;PG5az");
        for (int k = 0; k < 4; k++) x.reading(k, 5);
        Due.is("n -1", x.back(-1), RangeRules.OUTSIDE);
        Due.is("n 5", x.back(5), RangeRules.OUTSIDE);
        Due.is("least", x.back(Integer.MIN_VALUE), RangeRules.OUTSIDE);
        Due.is("none", x.back(0), 4);
        Due.is("one", x.back(1), 3);
        Due.is("all", x.back(3), 0);
        Due.is("one more", x.back(1), RangeRules.OUTSIDE);
        // The last ones go, not the first.
        x.reading(0, 7);
        x.reading(0, 5);
        Due.is("both can't be so", x.numbers(0), 0);
        x.back(1);
        Due.is("the first is left", x.numbers(0), 1 << 7);
    }

    private static void kinds() {
        RangeRules x = Due.with("q;PG1ac;PD4dd;BG4ez");
        for (int r = 0; r < 3; r++) Due.is("without readings", x.kinds(r), 7);
        Due.is("r 3", x.kinds(3), RangeRules.UNKNOWN);
        Due.is("r -1", x.kinds(-1), RangeRules.UNKNOWN);
        Due.is("no rules", new RangeRules().kinds(0), RangeRules.UNKNOWN);
        x.reading(0, 2);
        Due.is("1 and 1, twice 1", x.kinds(0), 6);
        Due.is("another one alone can't", x.kinds(2), 0);
        x.back(1);
        x.reading(3, NONE);
        Due.is("denied by any kind", x.kinds(1), 7);
        x.reading(5, 8);
        Due.is("a double 4", x.kinds(2), 4);
        Due.is("it is bulky, so not by rule 0", x.kinds(0), 0);
        x.reading(0, 1);
        Due.is("rule 0 is as read", x.kinds(2), 4);
        x.reading(0, 2);
        Due.is("both can't be so", x.kinds(2), 0);
    }

    private static void kindsLeaveAllAsItWas() {
        RangeRules x = Due.with("q;BG4az");
        x.reading(0, 8);
        Due.is("kinds", x.kinds(0), 4);
        Due.is("still bulky", x.ofRule(0, 0), 1);
        Due.is("numbers", x.numbers(0), 1 << 7);
        Due.is("still 4", x.ofRule(0, 2), 4);
        Due.is("worth", x.ask(0, 0), 5);
    }

    private static void numbers() {
        RangeRules x = Due.with("q;PG1ac;PD4dd;BG4ez;WG3az");
        for (int r = 0; r < 4; r++) Due.is("without readings", x.numbers(r), ALL_NUMBERS);
        Due.is("r 4", x.numbers(4), RangeRules.UNKNOWN);
        Due.is("r -1", x.numbers(-1), RangeRules.UNKNOWN);
        Due.is("no rules", new RangeRules().numbers(0), RangeRules.UNKNOWN);
        x.reading(2, 9);
        Due.is("plain 9", x.numbers(0), 1 << 9);
        Due.is("another one alone can't", x.numbers(2), 0);
        x.back(1);
        x.reading(25, 10);
        Due.is("bulky 9", x.numbers(2), 1 << 9);
        x.back(1);
        x.reading(25, 2);
        Due.is("bulky 1", x.numbers(2), 1 << 1);
        x.back(1);
        x.reading(3, NONE);
        Due.is("denied by any", x.numbers(1), ALL_NUMBERS);
        x.reading(3, 6);
        Due.is("denied by any, worth nothing", x.numbers(1), 0);
        x.back(2);
        Due.is("rule 1 away", x.remove(1), 3);
        x.reading(3, 6);
        Due.is("double 3", x.numbers(2), 1 << 3);
        x.back(1);
        x.reading(3, 7);
        Due.is("never odd", x.numbers(2), 0);
    }

    private static void numbersOfOneThatAsksOn() {
        // Worth by its number: 1 (b) 1+2, 2 (c) 2+2, 3 (d) denied, 4 (e) denied by nobody ..
        RangeRules x = Due.with("q;PJ1aa;PG2bc;PD1dd;BG6jj");
        Due.is("now", x.ask(0, 0), 3);
        x.reading(0, 4);
        Due.is("asks for c", x.numbers(0), 1 << 2);
        x.back(1);
        x.reading(0, NONE);
        Due.is("asks for d .. i", x.numbers(0), 0b0111111000);
        x.back(1);
        x.reading(0, 9 + 7);
        Due.is("asks for j", x.numbers(0), 1 << 9);
        x.back(1);
        x.reading(0, 2 + 2);
        Due.is("by kind bulky or double: 2 and 2", x.kinds(0), 6);
    }

    private static void oddsAre(RangeRules x, int v, int upper, int lower) {
        Due.is("odds(" + v + ", 0)", x.odds(v, 0), upper);
        Due.is("odds(" + v + ", 1)", x.odds(v, 1), lower);
    }

    private static void odds() {
        // 1 point worth 1, 3 worth 9, 9 worth 18, 13 denied
        RangeRules x = Due.with("q;PG1aa;PG9bd;WG9em");
        oddsAre(x, 0, 1, 2);
        oddsAre(x, 1, 1, 2);
        oddsAre(x, 2, 6, 13);
        oddsAre(x, 9, 6, 13);
        oddsAre(x, 10, 9, 26);
        oddsAre(x, 18, 9, 26);
        oddsAre(x, 19, 0, 1);
        oddsAre(x, 200, 0, 1);
        oddsAre(Due.with("q;PG1az"), 1, 1, 1);
        oddsAre(Due.with("q;PD1az"), 0, 0, 1);
        Due.is("v -1", x.odds(-1, 0), RangeRules.LOST);
        Due.is("v 201", x.odds(201, 1), RangeRules.LOST);
        Due.is("which -1", x.odds(0, -1), RangeRules.LOST);
        Due.is("which 2", x.odds(0, 2), RangeRules.LOST);
        Due.is("no rules", new RangeRules().odds(0, 0), RangeRules.LOST);
        x.reading(0, 200);
        oddsAre(x, 0, 1, 2);
    }
}
