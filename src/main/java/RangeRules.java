/**
 * Rules on ranges of points, in an order: whoever comes first and has a point wins it.
 * The document's words in capitals (RULE, POINT, SHEET ..) mean here what they mean there.
 */
public final class RangeRules {
    public static final int UNKNOWN = -1, OUTSIDE = -2, STATE = -3, FULL = -4, NONE = -9;
    public static final long LOST = Long.MIN_VALUE;

    private static final int NULL = 1, CAST = 2, INDEX = 3, SIZE = 4;
    private static final int POINTS = 26;
    private static final int MOST_RULES = 7, NOBODY = 7, NO_RULE = -1;
    private static final int PLAIN = 0, BULKY = 1, DOUBLE = 2;
    private static final int GIVES = 0, DENIES = 1, ASKS_ON = 2;
    private static final int MOST_NUMBER = 9;
    private static final int MOST_READINGS = 8, MOST_WORTH = 200;
    private static final int SHEETS = 4, MOST_CELLS = 60;
    private static final int BYTES = 0, SHORTS = 1, INTS = 2, NOTHING = -1;
    private static final int MOST_PAIRS = 20, TAKE_AWAY = 10, CHANGE_PLACES = 20;
    private static final int FIRST_OF_LIST = 10;
    private static final int WRONG_BASE = -100, FAULT_BASE = -10;

    private final Book book = new Book();
    // A DAY is played on this one, so that nothing of the book itself is changed by it.
    private final Book dayBook = new Book();
    private final Row[] rows = new Row[SHEETS];
    private final int[] readPoints = new int[MOST_READINGS];
    private final int[] readWorths = new int[MOST_READINGS];
    private int readings;
    private int trace;
    private int fault;

    public RangeRules() {
        for (int k = 0; k < SHEETS; k++) {
            rows[k] = new Row();
        }
    }

    // ---- 1 rules

    public int rules(int sheet, int lane, int i, int n) {
        fault = 0;
        if (!isSheet(sheet)) return UNKNOWN;
        if (!isIn(lane, BYTES, INTS)) return OUTSIDE;
        Row row = rows[sheet];
        int wrong = row.faultAs(lane);
        if (wrong != 0) return faulted(wrong);
        if (n < 0) return faulted(SIZE);
        if (!row.hasCells(i, n)) return faulted(INDEX);
        int place = Text.firstFault(row, i, n);
        if (place != Text.NO_FAULT) return WRONG_BASE - place;
        Text.take(row, i, n, book);
        readings = 0;
        return book.count;
    }

    public int ofRule(int r, int what) {
        if (!book.isRule(r)) return UNKNOWN;
        Rule rule = book.rules[r];
        switch (what) {
            case 0: return rule.kind;
            case 1: return rule.deed;
            case 2: return rule.number;
            case 3: return rule.low;
            case 4: return rule.high;
            case 5: return rule.ownWorth();
            case 6: return book.pointsWonBy(r);
            default: return OUTSIDE;
        }
    }

    public int number(int r, int v) {
        if (!book.isRule(r)) return UNKNOWN;
        if (!isIn(v, 1, MOST_NUMBER)) return OUTSIDE;
        int was = book.rules[r].number;
        book.rules[r].number = v;
        return was;
    }

    public int insert(int k, int kind, int deed, int number, int low, int high) {
        if (book.count == 0) return STATE;
        if (!isIn(k, 0, book.count)) return OUTSIDE;
        if (!isIn(kind, PLAIN, DOUBLE) || !isIn(deed, GIVES, ASKS_ON)) return OUTSIDE;
        if (!isIn(number, 1, MOST_NUMBER)) return OUTSIDE;
        if (!isIn(low, 0, POINTS - 1) || !isIn(high, low, POINTS - 1)) return OUTSIDE;
        if (book.count >= MOST_RULES) return FULL;
        book.openPlace(k);
        book.rules[k].become(kind, deed, number, low, high);
        return book.count;
    }

    public int remove(int r) {
        if (!book.isRule(r)) return UNKNOWN;
        if (book.count == 1) return STATE;
        book.takeAway(r);
        return book.count;
    }

    public int swap(int r) {
        if (!book.isPair(r)) return UNKNOWN;
        book.changePlaces(r);
        return r;
    }

    // ---- 2 points

    public int winner(int x) {
        if (!isPoint(x)) return OUTSIDE;
        if (book.count == 0) return STATE;
        return book.winnerOf(x);
    }

    public int ask(int x, int what) {
        if (!isPoint(x)) return OUTSIDE;
        if (!isIn(what, 0, 1) && !isIn(what, FIRST_OF_LIST, FIRST_OF_LIST + MOST_RULES)) return OUTSIDE;
        if (book.count == 0) return STATE;
        Asking asking = book.asking;
        asking.walk(book, x, NO_RULE);
        if (what == 0) return asking.worth;
        if (what == 1) return asking.denials;
        return asking.denier(what - FIRST_OF_LIST);
    }

    public int day(int sheet, int lane, int i, int n, int what) {
        fault = 0;
        if (!isSheet(sheet)) return UNKNOWN;
        if (!isIn(lane, BYTES, INTS) || !isIn(n, 0, MOST_PAIRS)) return OUTSIDE;
        if (!isIn(what, 0, 4) && !isIn(what, FIRST_OF_LIST, FIRST_OF_LIST + POINTS - 1)) return OUTSIDE;
        Row row = rows[sheet];
        int wrong = row.faultAs(lane);
        if (wrong != 0) return faulted(wrong);
        if (!row.hasCells(i, 2 * n)) return faulted(INDEX);
        if (book.count == 0) return STATE;
        if (!areActs(row, i, n)) return OUTSIDE;
        dayBook.becomeLike(book);
        int act = playDay(row, i, n);
        if (what == 1) return act;
        if (act != NONE) return WRONG_BASE - act;
        return ofDay(what);
    }

    // ---- 3 the whole

    public int ofRun(int k, int what) {
        if (!isIn(k, 0, runsNow() - 1)) return UNKNOWN;
        int first = book.firstOfRun(k);
        switch (what) {
            case 0: return first;
            case 1: return book.firstOfRun(k + 1) - first;
            case 2: return book.winnerOf(first);
            default: return OUTSIDE;
        }
    }

    public int whole(int what) {
        if (!isIn(what, 0, 4)) return OUTSIDE;
        if (book.count == 0) return STATE;
        switch (what) {
            case 0: return book.countRuns();
            case 1: return book.shadowed();
            case 2: return book.needed();
            case 3: return book.countDenied();
            default: return book.worthTogether();
        }
    }

    // ---- 4 what they are worth

    public int reading(int x, int v) {
        if (book.count == 0) return STATE;
        if (!isPoint(x)) return OUTSIDE;
        if (!isIn(v, 0, MOST_WORTH) && v != NONE) return OUTSIDE;
        if (readings >= MOST_READINGS) return FULL;
        int mine = readings;
        readPoints[mine] = x;
        readWorths[mine] = v;
        readings = mine + 1;
        return mine;
    }

    public int back(int n) {
        if (!isIn(n, 0, readings)) return OUTSIDE;
        readings -= n;
        return readings;
    }

    public int kinds(int r) {
        if (!book.isRule(r)) return UNKNOWN;
        Rule rule = book.rules[r];
        int was = rule.kind;
        int set = 0;
        for (int kind = PLAIN; kind <= DOUBLE; kind++) {
            rule.kind = kind;
            if (areReadingsSo()) set |= 1 << kind;
        }
        rule.kind = was;
        return set;
    }

    public int numbers(int r) {
        if (!book.isRule(r)) return UNKNOWN;
        Rule rule = book.rules[r];
        int was = rule.number;
        int set = 0;
        for (int number = 1; number <= MOST_NUMBER; number++) {
            rule.number = number;
            if (areReadingsSo()) set |= 1 << number;
        }
        rule.number = was;
        return set;
    }

    public long odds(int v, int which) {
        if (!isIn(v, 0, MOST_WORTH) || !isIn(which, 0, 1)) return LOST;
        if (book.count == 0) return LOST;
        int upper = book.countWorth(v);
        int common = greatestCommon(upper, POINTS);
        return which == 0 ? upper / common : POINTS / common;
    }

    // ---- 5 sheets, parts

    public int sheet(int k, int lane, int n) {
        fault = 0;
        if (!isSheet(k)) return UNKNOWN;
        if (!isIn(lane, BYTES, INTS) || n > MOST_CELLS) return OUTSIDE;
        if (n < 0) return faulted(SIZE);
        rows[k].becomeNew(lane, n);
        return 1;
    }

    public int lose(int k) {
        if (!isSheet(k)) return UNKNOWN;
        int had = rows[k].isNothing() ? 0 : 1;
        rows[k].becomeNothing();
        return had;
    }

    public int put(int k, int i, int v) {
        fault = 0;
        if (!isSheet(k)) return UNKNOWN;
        Row row = rows[k];
        if (row.isNothing()) return faulted(NULL);
        if (!row.hasCells(i, 1)) return faulted(INDEX);
        row.write(i, v);
        return 1;
    }

    public long cell(int k, int i, int lane) {
        fault = 0;
        if (!isSheet(k) || !isIn(lane, BYTES, INTS)) return LOST;
        Row row = rows[k];
        fault = row.faultAs(lane);
        if (fault == 0 && !row.hasCells(i, 1)) fault = INDEX;
        return fault == 0 ? row.read(i) : LOST;
    }

    public int copy(int k, int i, int other, int j, int n) {
        fault = 0;
        if (!isSheet(k) || !isSheet(other)) return UNKNOWN;
        Row from = rows[k];
        Row to = rows[other];
        if (from.isNothing() || to.isNothing()) return faulted(NULL);
        if (from.lane != to.lane) return faulted(CAST);
        if (!from.hasCells(i, n) || !to.hasCells(j, n)) return faulted(INDEX);
        System.arraycopy(from.cells, i, to.cells, j, n);
        return n;
    }

    public int tell(int r) {
        if (!book.isRule(r)) return UNKNOWN;
        Rule rule = book.rules[r];
        switch (rule.kind) {
            case BULKY: return bulkyBody(rule);
            case DOUBLE: return doubleBody(rule);
            default: return plainBody(rule);
        }
    }

    public int cite(int r) {
        if (!book.isRule(r)) return UNKNOWN;
        Rule rule = book.rules[r];
        return rule.kind == DOUBLE ? ownCiteBody() : lentCiteBody(rule);
    }

    public int as(int r, int kind) {
        fault = 0;
        if (!book.isRule(r)) return UNKNOWN;
        if (!isIn(kind, PLAIN, DOUBLE)) return OUTSIDE;
        // Each kind is also one of every kind with a lower number.
        if (kind > book.rules[r].kind) return faulted(CAST);
        return 1;
    }

    public int trace() {
        return trace;
    }

    public int fault() {
        return fault;
    }

    public int many(int what) {
        switch (what) {
            case 0: return book.count;
            case 1: return runsNow();
            case 2: return readings;
            default: return OUTSIDE;
        }
    }

    // ---- what the calls share

    private static boolean isIn(int v, int least, int most) {
        return v >= least && v <= most;
    }

    private static boolean isPoint(int x) {
        return isIn(x, 0, POINTS - 1);
    }

    private static boolean isSheet(int k) {
        return isIn(k, 0, SHEETS - 1);
    }

    private int faulted(int which) {
        fault = which;
        return FAULT_BASE - which;
    }

    private int runsNow() {
        // Without RULES all POINTS would be one RUN that nobody wins; the document has none then.
        return book.count == 0 ? 0 : book.countRuns();
    }

    private boolean areReadingsSo() {
        for (int k = 0; k < readings; k++) {
            if (book.worthOf(readPoints[k], NO_RULE) != readWorths[k]) return false;
        }
        return true;
    }

    private static int greatestCommon(int a, int b) {
        int left = a;
        int right = b;
        // Both are at most 26, and the right one falls with each turn.
        for (int turn = 0; turn < POINTS && right != 0; turn++) {
            int rest = left % right;
            left = right;
            right = rest;
        }
        return Math.max(left, 1);
    }

    // ---- a day's acts

    private static boolean areActs(Row row, int from, int pairs) {
        for (int p = 0; p < pairs; p++) {
            if (!isAct(row.read(from + 2 * p), row.read(from + 2 * p + 1))) return false;
        }
        return true;
    }

    private static boolean isAct(int first, int second) {
        if (isIn(second, 0, MOST_RULES - 1)) return isIn(first, 1, MOST_NUMBER);
        if (isIn(second, TAKE_AWAY, TAKE_AWAY + MOST_RULES - 1)) return first == 0;
        return second == CHANGE_PLACES && isIn(first, 0, MOST_RULES - 2);
    }

    /** Plays acts on the day's book up to the FIRST WRONG, and tells that (NONE). */
    private int playDay(Row row, int from, int pairs) {
        for (int p = 0; p < pairs; p++) {
            if (!playAct(row.read(from + 2 * p), row.read(from + 2 * p + 1))) return p;
        }
        return NONE;
    }

    private boolean playAct(int first, int second) {
        if (second == CHANGE_PLACES) {
            if (!dayBook.isPair(first)) return false;
            dayBook.changePlaces(first);
            return true;
        }
        if (second >= TAKE_AWAY) {
            if (!dayBook.isRule(second - TAKE_AWAY) || dayBook.count == 1) return false;
            dayBook.takeAway(second - TAKE_AWAY);
            return true;
        }
        if (!dayBook.isRule(second)) return false;
        dayBook.rules[second].number = first;
        return true;
    }

    private int ofDay(int what) {
        switch (what) {
            case 0: return dayBook.countDenied();
            case 2: return dayBook.shadowed();
            case 3: return dayBook.countRuns();
            case 4: return dayBook.worthTogether();
            default: return dayBook.worthOf(what - FIRST_OF_LIST, NO_RULE);
        }
    }

    // ---- bodies that leave their number

    private void leave(int body) {
        trace = 31 * trace + body;
    }

    private int plainBody(Rule rule) {
        leave(1);
        return rule.number;
    }

    private int bulkyBody(Rule rule) {
        leave(2);
        return plainBody(rule) + 100;
    }

    private int doubleBody(Rule rule) {
        leave(3);
        int bulky = bulkyBody(rule);
        return bulky + plainBody(rule);
    }

    private int lentCiteBody(Rule rule) {
        leave(4);
        return rule.low;
    }

    private int ownCiteBody() {
        leave(5);
        return 60;
    }

    /** What a SHEET has: nothing, or a row of a LANE. Its cells are made once and used again. */
    private static final class Row {
        final int[] cells = new int[MOST_CELLS];
        int lane = NOTHING;
        int size;

        boolean isNothing() {
            return lane == NOTHING;
        }

        void becomeNothing() {
            lane = NOTHING;
            size = 0;
        }

        void becomeNew(int newLane, int newSize) {
            lane = newLane;
            size = Math.max(0, Math.min(newSize, MOST_CELLS));
            for (int i = 0; i < size; i++) {
                cells[i] = 0;
            }
        }

        /** Which FAULT taking this as a row of a LANE comes to; 0: none. */
        int faultAs(int asLane) {
            if (isNothing()) return NULL;
            return lane == asLane ? 0 : CAST;
        }

        boolean hasCells(int from, int n) {
            // Told by a difference: from and n together could wrap.
            return from >= 0 && from <= size && n >= 0 && n <= size - from;
        }

        int read(int i) {
            return i >= 0 && i < size ? cells[i] : 0;
        }

        void write(int i, int v) {
            if (i >= 0 && i < size) cells[i] = cut(v);
        }

        private int cut(int v) {
            if (lane == BYTES) return (byte) v;
            if (lane == SHORTS) return (short) v;
            return v;
        }
    }

    /** One RULE. */
    private static final class Rule {
        int kind;
        int deed;
        int number = 1;
        int low;
        int high;

        void become(int newKind, int newDeed, int newNumber, int newLow, int newHigh) {
            kind = newKind;
            deed = newDeed;
            number = newNumber;
            low = newLow;
            high = newHigh;
        }

        boolean hasPoint(int x) {
            return x >= low && x <= high;
        }

        int ownWorth() {
            if (kind == BULKY) return number + 1;
            return kind == DOUBLE ? 2 * number : number;
        }
    }

    /** The RULES in their order. Places behind the count keep spare ones, so that none is made later. */
    private static final class Book {
        final Rule[] rules = new Rule[MOST_RULES];
        final Asking asking = new Asking();
        int count;

        Book() {
            for (int r = 0; r < MOST_RULES; r++) {
                rules[r] = new Rule();
            }
        }

        boolean isRule(int r) {
            return r >= 0 && r < count;
        }

        boolean isPair(int r) {
            return r >= 0 && r < count - 1;
        }

        void becomeLike(Book other) {
            count = other.count;
            for (int r = 0; r < count; r++) {
                Rule rule = other.rules[r];
                rules[r].become(rule.kind, rule.deed, rule.number, rule.low, rule.high);
            }
        }

        void openPlace(int k) {
            if (k < 0 || k > count || count >= MOST_RULES) return;
            Rule spare = rules[count];
            for (int r = count; r > k; r--) {
                rules[r] = rules[r - 1];
            }
            rules[k] = spare;
            count++;
        }

        void takeAway(int k) {
            if (!isRule(k)) return;
            Rule spare = rules[k];
            for (int r = k; r < count - 1; r++) {
                rules[r] = rules[r + 1];
            }
            count--;
            rules[count] = spare;
        }

        void changePlaces(int r) {
            if (!isPair(r)) return;
            Rule first = rules[r];
            rules[r] = rules[r + 1];
            rules[r + 1] = first;
        }

        int winnerOf(int x) {
            for (int r = 0; r < count; r++) {
                if (rules[r].hasPoint(x)) return r;
            }
            return NONE;
        }

        int pointsWonBy(int r) {
            int won = 0;
            for (int x = 0; x < POINTS; x++) {
                if (winnerOf(x) == r) won++;
            }
            return won;
        }

        int worthOf(int x, int without) {
            asking.walk(this, x, without);
            return asking.worth;
        }

        int countDenied() {
            return POINTS - countWorth(0);
        }

        /** How many POINTS are worth so much or more; DENIED ones are worth nothing at all. */
        int countWorth(int least) {
            int points = 0;
            for (int x = 0; x < POINTS; x++) {
                int worth = worthOf(x, NO_RULE);
                if (worth != NONE && worth >= least) points++;
            }
            return points;
        }

        int worthTogether() {
            int sum = 0;
            for (int x = 0; x < POINTS; x++) {
                int worth = worthOf(x, NO_RULE);
                if (worth != NONE) sum += worth;
            }
            return sum;
        }

        boolean beginsRun(int x) {
            return x == 0 || winnerOf(x) != winnerOf(x - 1);
        }

        int countRuns() {
            int runs = 0;
            for (int x = 0; x < POINTS; x++) {
                if (beginsRun(x)) runs++;
            }
            return runs;
        }

        /** The POINT with which RUN k begins; how many POINTS there are, if there is no such RUN. */
        int firstOfRun(int k) {
            int run = -1;
            for (int x = 0; x < POINTS; x++) {
                if (beginsRun(x)) run++;
                if (run == k) return x;
            }
            return POINTS;
        }

        int shadowed() {
            int set = 0;
            for (int r = 0; r < count; r++) {
                if (pointsWonBy(r) == 0) set |= 1 << r;
            }
            return set;
        }

        int needed() {
            int set = 0;
            for (int r = 0; r < count; r++) {
                if (isNeeded(r)) set |= 1 << r;
            }
            return set;
        }

        private boolean isNeeded(int r) {
            for (int x = 0; x < POINTS; x++) {
                if (worthOf(x, NO_RULE) != worthOf(x, r)) return true;
            }
            return false;
        }
    }

    /** What an ASKING came to: a worth, or NONE and whose the DENIALS are. */
    private static final class Asking {
        final int[] deniers = new int[MOST_RULES + 1];
        int denials;
        int worth;

        /**
         * Asks for a number, one RULE left out (NO_RULE). Whoever asks on asks those behind it alone,
         * so one walk over the RULES meets all who answer, in the order of their DENIALS.
         */
        void walk(Book book, int x, int without) {
            int asked = x;
            int sum = 0;
            denials = 0;
            for (int r = 0; r < book.count; r++) {
                Rule rule = book.rules[r];
                if (r == without || !rule.hasPoint(asked)) continue;
                sum += rule.ownWorth();
                if (rule.deed == GIVES) {
                    give(sum);
                    return;
                }
                addDenier(r);
                if (rule.deed == DENIES) {
                    worth = NONE;
                    return;
                }
                asked += rule.number;
            }
            addDenier(NOBODY);
            worth = NONE;
        }

        /** Those who asked on deny nothing, if somebody gives. */
        private void give(int sum) {
            worth = sum;
            denials = 0;
        }

        private void addDenier(int who) {
            if (denials >= deniers.length) return;
            deniers[denials] = who;
            denials++;
        }

        int denier(int k) {
            return k >= 0 && k < denials ? deniers[k] : NONE;
        }
    }

    /** The TEXT by which RULES are told: q, then for each RULE ; kind deed number low high. */
    private static final class Text {
        static final int NO_FAULT = -1;
        static final int RULE_CODES = 6;

        /** The FIRST FAULT of n codes; NO_FAULT: they are a TEXT. */
        static int firstFault(Row row, int from, int n) {
            for (int p = 0; p < n; p++) {
                if (!goesOn(row, from, p)) return p;
            }
            return n > 1 && (n - 1) % RULE_CODES == 0 ? NO_FAULT : n;
        }

        private static boolean goesOn(Row row, int from, int p) {
            int code = row.read(from + p);
            if (p == 0) return code == 'q';
            if (p > MOST_RULES * RULE_CODES) return false;
            switch ((p - 1) % RULE_CODES) {
                case 0: return code == ';';
                case 1: return kindOf(code) != NONE;
                case 2: return deedOf(code) != NONE;
                case 3: return isIn(code, '1', '9');
                case 4: return isIn(code, 'a', 'z');
                default: return isIn(code, row.read(from + p - 1), 'z');
            }
        }

        /** Makes a book of codes that are a TEXT. */
        static void take(Row row, int from, int n, Book book) {
            book.count = Math.min((n - 1) / RULE_CODES, MOST_RULES);
            for (int r = 0; r < book.count; r++) {
                int at = from + 1 + r * RULE_CODES;
                book.rules[r].become(kindOf(row.read(at + 1)), deedOf(row.read(at + 2)),
                        row.read(at + 3) - '0', row.read(at + 4) - 'a', row.read(at + 5) - 'a');
            }
        }

        private static int kindOf(int code) {
            switch (code) {
                case 'P': return PLAIN;
                case 'B': return BULKY;
                case 'W': return DOUBLE;
                default: return NONE;
            }
        }

        private static int deedOf(int code) {
            switch (code) {
                case 'G': return GIVES;
                case 'D': return DENIES;
                case 'J': return ASKS_ON;
                default: return NONE;
            }
        }
    }
}
