/** Promises 1 to 7: a new object, the text, and how rules are told, put in, taken away and changed. */
public final class RulesTest {
    // 0: asks on (3), a..h; 1: bulky, gives 4, d..i; 2: double, denies 2, c..z
    private static final String THREE = "q;PJ3ah;BG4di;WD2cz";

    private RulesTest() {
    }

    public static void main(String[] args) {
        newObject();
        textsTaken();
        firstFaults();
        textRefusalsAndFaults();
        textMakesAllAnew();
        ofRule();
        number();
        insert();
        insertRefusals();
        remove();
        swap();
        Due.end("RulesTest");
    }

    private static void newObject() {
        RangeRules x = new RangeRules();
        for (int what = 0; what <= 2; what++) Due.is("many of a new one", x.many(what), 0);
        for (int k = 0; k < 4; k++) {
            Due.is("put of a new one", x.put(k, 0, 1), -11);
            Due.is("lose of a new one", x.lose(k), 0);
        }
        RangeRules y = new RangeRules();
        Due.is("fault of a new one", y.fault(), 0);
        Due.is("trace of a new one", y.trace(), 0);
    }

    private static void textsTaken() {
        RangeRules x = new RangeRules();
        Due.is("one rule", Due.rules(x, "q;PG1aa"), 1);
        Due.is("one rule at the end", Due.rules(x, "q;WJ9zz"), 1);
        Due.is("seven rules", Due.rules(x, "q;PG1aa;PG2bb;PG3cc;PG4dd;PG5ee;PG6ff;PG7gg"), 7);
        Due.is("the seventh's number", x.ofRule(6, 2), 7);
        Due.is("the first's number", x.ofRule(0, 2), 1);

        Due.write(x, 1, 1, "xxq;BD5ckyy");
        Due.is("part of a row of shorts", x.rules(1, 1, 2, 7), 1);
        Due.is("its low", x.ofRule(0, 3), 2);
        Due.is("its high", x.ofRule(0, 4), 10);
        Due.is("places are those of the text", x.rules(1, 1, 2, 8), -107);
        Due.is("a text that ends too soon inside a row", x.rules(1, 1, 2, 6), -106);

        Due.write(x, 2, 2, "q;WG9my");
        Due.is("a row of ints", x.rules(2, 2, 0, 7), 1);
        Due.is("its kind", x.ofRule(0, 0), 2);
    }

    private static void firstFault(String text, int place) {
        RangeRules x = Due.with("q;PG3bz;PG4ac");
        Due.is("rules of " + text, Due.rules(x, text), -100 - place);
        Due.is("rules after " + text, x.many(0), 2);
        Due.is("number after " + text, x.ofRule(1, 2), 4);
        Due.is("fault after " + text, x.fault(), 0);
    }

    private static void firstFaults() {
        firstFault("", 0);
        firstFault("q", 1);
        firstFault("Q;PG1aa", 0);
        firstFault(";PG1aa", 0);
        firstFault("q,PG1aa", 1);
        firstFault("qq", 1);
        for (String kind : new String[] {"A", "C", "O", "Q", "V", "X", "p", "G", ";"}) {
            firstFault("q;" + kind + "G1aa", 2);
        }
        for (String deed : new String[] {"C", "E", "F", "H", "I", "K", "g", "P"}) {
            firstFault("q;P" + deed + "1aa", 3);
        }
        for (String digit : new String[] {"0", ":", "/", "a"}) {
            firstFault("q;PG" + digit + "aa", 4);
        }
        for (String low : new String[] {"`", "{", "A", "1"}) {
            firstFault("q;PG1" + low + "z", 5);
        }
        firstFault("q;PG1b`", 6);
        firstFault("q;PG1ba", 6);
        firstFault("q;PG1zy", 6);
        firstFault("q;PG1a{", 6);
        for (int n = 2; n <= 6; n++) firstFault("q;PG1aa".substring(0, n), n);
        firstFault("q;PG1aa;", 8);
        firstFault("q;PG1aax", 7);
        firstFault("q;PG1aa;BD2ba", 12);
        firstFault("q;PG1aa;BD2b", 12);
        String seven = "q;PG1aa;PG2bb;PG3cc;PG4dd;PG5ee;PG6ff;PG7gg";
        firstFault(seven + ";", 43);
        firstFault(seven + "x", 43);
        firstFault(seven + ";PG8hh", 43);
        firstFault(seven.substring(0, 42), 42);
    }

    private static void textRefusalsAndFaults() {
        RangeRules x = new RangeRules();
        Due.is("nothing there", x.rules(0, 0, 0, 7), -11);
        Due.is("its fault", x.fault(), 1);
        Due.write(x, 0, 0, "q;PG1aa");
        Due.is("sheet -1", x.rules(-1, 9, 0, -1), RangeRules.UNKNOWN);
        Due.is("sheet 4", x.rules(4, 0, 0, 7), RangeRules.UNKNOWN);
        Due.is("lane -1", x.rules(0, -1, 0, -1), RangeRules.OUTSIDE);
        Due.is("lane 3", x.rules(0, 3, 0, 7), RangeRules.OUTSIDE);
        Due.is("lane of nothing", x.rules(1, 3, 0, 7), RangeRules.OUTSIDE);
        Due.is("another lane", x.rules(0, 1, -1, -1), -12);
        Due.is("its fault", x.fault(), 2);
        Due.is("nothing is no cast", x.rules(1, 2, -1, -1), -11);
        Due.is("length below 0", x.rules(0, 0, -1, -1), -14);
        Due.is("its fault", x.fault(), 4);
        Due.is("a refusal clears it", x.rules(0, 3, 0, 7), RangeRules.OUTSIDE);
        Due.is("cleared", x.fault(), 0);
        Due.is("one cell too many", x.rules(0, 0, 0, 8), -13);
        Due.is("its fault", x.fault(), 3);
        Due.is("from -1 on", x.rules(0, 0, -1, 0), -13);
        Due.is("from beyond, none taken", x.rules(0, 0, 8, 0), -13);
        Due.is("from the end, none taken", x.rules(0, 0, 7, 0), -100);
        Due.is("no fault of the machine", x.fault(), 0);
        Due.is("wrapping", x.rules(0, 0, 1, Integer.MAX_VALUE), -13);
        Due.is("wrapping, too", x.rules(0, 0, Integer.MAX_VALUE, Integer.MAX_VALUE), -13);
        Due.is("no rules yet", x.many(0), 0);
        Due.is("taken", x.rules(0, 0, 0, 7), 1);
        Due.row(x, 1, 2, 113 + 256, 59, 80, 71, 49, 97, 97);
        Due.is("ints are not cut", x.rules(1, 2, 0, 7), -100);
        Due.row(x, 1, 0, 113 + 256, 59, 80, 71, 49, 97, 97);
        Due.is("bytes are", x.rules(1, 0, 0, 7), 1);
    }

    private static void textMakesAllAnew() {
        RangeRules x = Due.with(THREE);
        Due.is("tell", x.tell(0), 3);
        Due.is("reading", x.reading(0, 8), 0);
        Due.is("reading", x.reading(1, 8), 1);
        Due.is("a text that is not taken", Due.rules(x, "q;"), -102);
        Due.is("keeps readings", x.many(2), 2);
        Due.is("a text that is taken", Due.rules(x, "q;PG5bz"), 1);
        Due.is("has no readings", x.many(2), 0);
        Due.is("one rule", x.many(0), 1);
        Due.is("the old second one is away", x.ofRule(1, 0), RangeRules.UNKNOWN);
        Due.is("trace stays", x.trace(), 1);
        Due.is("sheets stay", x.cell(0, 0, 0), 'q');
    }

    private static void rule(RangeRules x, int r, int... dues) {
        for (int what = 0; what < dues.length; what++) {
            Due.is("ofRule(" + r + ", " + what + ")", x.ofRule(r, what), dues[what]);
        }
    }

    private static void ofRule() {
        RangeRules x = Due.with(THREE);
        rule(x, 0, 0, 2, 3, 0, 7, 3, 8);
        rule(x, 1, 1, 0, 4, 3, 8, 5, 1);
        rule(x, 2, 2, 1, 2, 2, 25, 4, 17);
        rule(x, 2, 2, 1, 2, 2, 25, 4, 17, RangeRules.OUTSIDE);
        Due.is("what -1", x.ofRule(0, -1), RangeRules.OUTSIDE);
        Due.is("r -1", x.ofRule(-1, 0), RangeRules.UNKNOWN);
        Due.is("r 3, what 7", x.ofRule(3, 7), RangeRules.UNKNOWN);
        Due.is("worth of a double 9", Due.with("q;WG9aa").ofRule(0, 5), 18);
        Due.is("worth of a bulky 9", Due.with("q;BG9aa").ofRule(0, 5), 10);
        Due.is("points of a shadowed one", Due.with("q;PG1az;PG2mm").ofRule(1, 6), 0);
    }

    private static void number() {
        RangeRules x = Due.with(THREE);
        Due.is("number", x.number(1, 9), 4);
        Due.is("is that now", x.ofRule(1, 2), 9);
        Due.is("number again", x.number(1, 1), 9);
        Due.is("worth with it", x.ofRule(1, 5), 2);
        Due.is("others stay", x.ofRule(0, 2) * 10 + x.ofRule(2, 2), 32);
        Due.is("r 3", x.number(3, 0), RangeRules.UNKNOWN);
        Due.is("r -1", x.number(-1, 1), RangeRules.UNKNOWN);
        Due.is("v 0", x.number(0, 0), RangeRules.OUTSIDE);
        Due.is("v 10", x.number(0, 10), RangeRules.OUTSIDE);
        Due.is("still", x.ofRule(0, 2), 3);
    }

    private static void insert() {
        RangeRules x = Due.with("q;PG1aa;PG2bb");
        Due.is("in front", x.insert(0, 1, 1, 5, 0, 25), 3);
        rule(x, 0, 1, 1, 5, 0, 25, 6, 26);
        rule(x, 1, 0, 0, 1, 0, 0, 1, 0);
        rule(x, 2, 0, 0, 2, 1, 1, 2, 0);
        Due.is("behind", x.insert(3, 2, 2, 9, 25, 25), 4);
        rule(x, 3, 2, 2, 9, 25, 25, 18, 0);
        Due.is("in between", x.insert(2, 0, 0, 7, 3, 4), 5);
        rule(x, 1, 0, 0, 1, 0, 0);
        rule(x, 2, 0, 0, 7, 3, 4);
        rule(x, 3, 0, 0, 2, 1, 1);
        rule(x, 4, 2, 2, 9, 25, 25);
        Due.is("sixth", x.insert(5, 0, 0, 6, 0, 0), 6);
        Due.is("seventh", x.insert(6, 0, 0, 7, 0, 0), 7);
        Due.is("eighth", x.insert(7, 0, 0, 8, 0, 0), RangeRules.FULL);
        Due.is("eighth in front", x.insert(0, 0, 0, 8, 0, 0), RangeRules.FULL);
        Due.is("still seven", x.many(0), 7);
        Due.is("the seventh", x.ofRule(6, 2), 7);
    }

    private static void insertRefusals() {
        RangeRules none = new RangeRules();
        Due.is("no rules", none.insert(-1, -1, -1, -1, -1, -1), RangeRules.STATE);
        RangeRules x = Due.with("q;PG1aa;PG2bb;PG3cc;PG4dd;PG5ee;PG6ff;PG7gg");
        Due.is("outside ahead of full", x.insert(8, 0, 0, 1, 0, 0), RangeRules.OUTSIDE);
        Due.is("remove", x.remove(0), 6);
        int[][] wrong = {
            {-1, 0, 0, 1, 0, 0}, {7, 0, 0, 1, 0, 0}, {0, -1, 0, 1, 0, 0}, {0, 3, 0, 1, 0, 0},
            {0, 0, -1, 1, 0, 0}, {0, 0, 3, 1, 0, 0}, {0, 0, 0, 0, 0, 0}, {0, 0, 0, 10, 0, 0},
            {0, 0, 0, 1, -1, 0}, {0, 0, 0, 1, 26, 26}, {0, 0, 0, 1, 1, 0}, {0, 0, 0, 1, 0, 26},
            {0, 0, 0, 1, 25, 26}, {0, 0, 0, 1, -1, -1}};
        for (int[] w : wrong) {
            Due.is("wrong insert", x.insert(w[0], w[1], w[2], w[3], w[4], w[5]), RangeRules.OUTSIDE);
        }
        Due.is("still six", x.many(0), 6);
        Due.is("the first", x.ofRule(0, 2), 2);
    }

    private static void remove() {
        RangeRules x = Due.with("q;PG1aa;PG2bb;PG3cc;PG4dd");
        Due.is("r -1", x.remove(-1), RangeRules.UNKNOWN);
        Due.is("r 4", x.remove(4), RangeRules.UNKNOWN);
        Due.is("in between", x.remove(1), 3);
        rule(x, 0, 0, 0, 1, 0, 0, 1, 1);
        rule(x, 1, 0, 0, 3, 2, 2, 3, 1);
        rule(x, 2, 0, 0, 4, 3, 3, 4, 1);
        Due.is("there is no fourth", x.ofRule(3, 0), RangeRules.UNKNOWN);
        Due.is("last", x.remove(2), 2);
        Due.is("first", x.remove(0), 1);
        Due.is("left", x.ofRule(0, 2), 3);
        Due.is("unknown ahead of the only one", x.remove(1), RangeRules.UNKNOWN);
        Due.is("the only one", x.remove(0), RangeRules.STATE);
        Due.is("still there", x.ofRule(0, 2), 3);
        Due.is("put in again", x.insert(0, 2, 1, 8, 4, 9), 2);
        rule(x, 0, 2, 1, 8, 4, 9, 16, 6);
        rule(x, 1, 0, 0, 3, 2, 2, 3, 1);
    }

    private static void swap() {
        RangeRules x = Due.with("q;PG1ac;BD2bb;WJ3cc");
        Due.is("winner of 1", x.winner(1), 0);
        Due.is("swap", x.swap(0), 0);
        rule(x, 0, 1, 1, 2, 1, 1, 3, 1);
        rule(x, 1, 0, 0, 1, 0, 2, 1, 2);
        Due.is("swap the last ones", x.swap(1), 1);
        rule(x, 1, 2, 2, 3, 2, 2, 6, 1);
        rule(x, 2, 0, 0, 1, 0, 2, 1, 1);
        Due.is("the second is not there", x.swap(2), RangeRules.UNKNOWN);
        Due.is("r -1", x.swap(-1), RangeRules.UNKNOWN);
        Due.is("r 3", x.swap(3), RangeRules.UNKNOWN);
        Due.is("wrapping", x.swap(Integer.MAX_VALUE), RangeRules.UNKNOWN);
        Due.is("no rules", new RangeRules().swap(0), RangeRules.UNKNOWN);
    }
}
