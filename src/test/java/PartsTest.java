/** Promises 23 to 28: telling, citing, kinds as casts, trace, fault and how many there are. */
public final class PartsTest {
    private PartsTest() {
    }

    public static void main(String[] args) {
        tell();
        cite();
        as();
        trace();
        fault();
        many();
        Due.end("PartsTest");
    }

    private static int leave(int trace, int... bodies) {
        int t = trace;
        for (int body : bodies) t = t * 31 + body;
        return t;
    }

    private static void tell() {
        RangeRules x = Due.with("q;PG4cz;BD5dz;WJ6ez");
        Due.is("plain", x.tell(0), 4);
        Due.is("its trace", x.trace(), 1);
        Due.is("bulky", x.tell(1), 105);
        Due.is("its trace", x.trace(), leave(0, 1, 2, 1));
        Due.is("double", x.tell(2), 112);
        Due.is("its trace", x.trace(), leave(0, 1, 2, 1, 3, 2, 1, 1));
        int before = x.trace();
        Due.is("r 3", x.tell(3), RangeRules.UNKNOWN);
        Due.is("r -1", x.tell(-1), RangeRules.UNKNOWN);
        Due.is("no trace of those", x.trace(), before);
        x.number(2, 9);
        Due.is("with another number", x.tell(2), 118);
    }

    private static void cite() {
        RangeRules x = Due.with("q;PG4cz;BD5dz;WJ6ez");
        Due.is("plain", x.cite(0), 2);
        Due.is("its trace", x.trace(), 4);
        Due.is("bulky", x.cite(1), 3);
        Due.is("its trace", x.trace(), leave(0, 4, 4));
        Due.is("double", x.cite(2), 60);
        Due.is("its trace", x.trace(), leave(0, 4, 4, 5));
        Due.is("r 3", x.cite(3), RangeRules.UNKNOWN);
        Due.is("r -1", x.cite(-1), RangeRules.UNKNOWN);
        Due.is("no trace of those", x.trace(), leave(0, 4, 4, 5));
    }

    private static void as() {
        RangeRules x = Due.with("q;PG4cz;BD5dz;WJ6ez");
        for (int r = 0; r < 3; r++) {
            for (int kind = 0; kind < 3; kind++) {
                boolean is = kind <= r;
                Due.is("as(" + r + ", " + kind + ")", x.as(r, kind), is ? 1 : -12);
                Due.is("its fault", x.fault(), is ? 0 : 2);
            }
        }
        Due.is("cast", x.as(0, 2), -12);
        Due.is("kind 3", x.as(0, 3), RangeRules.OUTSIDE);
        Due.is("clears", x.fault(), 0);
        Due.is("cast", x.as(0, 2), -12);
        Due.is("r 3, kind 3", x.as(3, 3), RangeRules.UNKNOWN);
        Due.is("clears", x.fault(), 0);
        Due.is("kind -1", x.as(2, -1), RangeRules.OUTSIDE);
        Due.is("r -1", x.as(-1, 0), RangeRules.UNKNOWN);
        Due.is("still plain", x.ofRule(0, 0), 0);
        Due.is("no trace", x.trace(), 0);
    }

    private static void trace() {
        RangeRules x = Due.with("q;WG1az");
        int t = 0;
        for (int k = 0; k < 20; k++) {
            x.tell(0);
            t = leave(t, 3, 2, 1, 1);
            Due.is("it wraps", x.trace(), t);
        }
        x.kinds(0);
        x.numbers(0);
        x.whole(4);
        Due.is("others leave nothing", x.trace(), t);
    }

    private static void fault() {
        RangeRules x = Due.with("q;PG4cz");
        Due.is("a fault", x.put(1, 0, 0), -11);
        // Calls that name no fault leave it as it is, refused or not.
        x.ofRule(9, 0);
        x.number(0, 5);
        x.insert(0, 0, 0, 1, 0, 0);
        x.swap(0);
        x.remove(0);
        x.remove(0);
        x.winner(99);
        x.ask(0, 0);
        x.ofRun(0, 0);
        x.whole(0);
        x.reading(0, 0);
        x.back(1);
        x.kinds(0);
        x.numbers(9);
        x.odds(0, 5);
        x.lose(9);
        x.lose(3);
        x.tell(0);
        x.cite(9);
        x.trace();
        x.many(9);
        Due.is("still that", x.fault(), 1);
        Due.is("and again", x.fault(), 1);
        Due.is("a call that comes to none", x.put(0, 0, 'q'), 1);
        Due.is("0", x.fault(), 0);
    }

    private static void many() {
        RangeRules none = new RangeRules();
        for (int what = 0; what <= 2; what++) Due.is("many of none", none.many(what), 0);
        RangeRules x = Due.with("q;PG4cz;BD5dz;WJ6aa");
        x.reading(0, 0);
        x.reading(0, 0);
        Due.is("rules", x.many(0), 3);
        Due.is("runs: a, b, c to z", x.many(1), 3);
        Due.is("readings", x.many(2), 2);
        Due.is("what 3", x.many(3), RangeRules.OUTSIDE);
        Due.is("what -1", x.many(-1), RangeRules.OUTSIDE);
    }
}
