import java.util.ArrayList;
import java.util.List;
import java.util.stream.IntStream;

/**
 * The document once more, written for being read and not for being spare: kinds are classes, rows are the
 * machine's own arrays, faults are what the machine throws, asking is a recursion. ModelTest holds the
 * class against it.
 */
final class Model {
    private static final int NONE = -9;
    private static final long LOST = Long.MIN_VALUE;

    private interface Cited {
        int low();

        void leave(int body);

        default int citing() {
            leave(4);
            return low();
        }
    }

    private static class Plain implements Cited {
        final Model owner;
        final int deed;
        final int number;
        final int low;
        final int high;

        Plain(Model owner, int deed, int number, int low, int high) {
            this.owner = owner;
            this.deed = deed;
            this.number = number;
            this.low = low;
            this.high = high;
        }

        public int low() {
            return low;
        }

        public void leave(int body) {
            owner.trace = 31 * owner.trace + body;
        }

        int kind() {
            return 0;
        }

        int worth() {
            return number;
        }

        int telling() {
            leave(1);
            return number;
        }

        final int plainTelling() {
            leave(1);
            return number;
        }
    }

    private static class Bulky extends Plain {
        Bulky(Model owner, int deed, int number, int low, int high) {
            super(owner, deed, number, low, high);
        }

        @Override int kind() {
            return 1;
        }

        @Override int worth() {
            return super.worth() + 1;
        }

        @Override int telling() {
            leave(2);
            return super.telling() + 100;
        }
    }

    private static class Double extends Bulky {
        Double(Model owner, int deed, int number, int low, int high) {
            super(owner, deed, number, low, high);
        }

        @Override int kind() {
            return 2;
        }

        @Override int worth() {
            return number + number;
        }

        @Override int telling() {
            leave(3);
            return super.telling() + plainTelling();
        }

        @Override public int citing() {
            leave(5);
            return 60;
        }
    }

    /** What asking came to. */
    private record Answer(boolean denied, int worth, List<Integer> denials) {
        int told() {
            return denied ? NONE : worth;
        }
    }

    private record Reading(int point, int worth) {
    }

    private List<Plain> rules = new ArrayList<>();
    private final List<Reading> readings = new ArrayList<>();
    private final Object[] sheets = new Object[4];
    private int trace = 0;
    private int fault = 0;

    private Plain make(int kind, int deed, int number, int low, int high) {
        return kind == 0 ? new Plain(this, deed, number, low, high)
            : kind == 1 ? new Bulky(this, deed, number, low, high) : new Double(this, deed, number, low, high);
    }

    private Plain with(Plain rule, int kind, int number) {
        return make(kind, rule.deed, number, rule.low, rule.high);
    }

    private static Answer asking(List<Plain> rules, int from, int x) {
        for (int r = from; r < rules.size(); r++) {
            Plain rule = rules.get(r);
            if (x < rule.low || x > rule.high) continue;
            if (rule.deed == 0) return new Answer(false, rule.worth(), List.of());
            if (rule.deed == 1) return new Answer(true, 0, List.of(r));
            Answer on = asking(rules, r + 1, x + rule.number);
            if (!on.denied) return new Answer(false, on.worth + rule.worth(), List.of());
            List<Integer> denials = new ArrayList<>(List.of(r));
            denials.addAll(on.denials);
            return new Answer(true, 0, denials);
        }
        return new Answer(true, 0, List.of(7));
    }

    private static int[] worths(List<Plain> rules) {
        return IntStream.range(0, 26).map(x -> asking(rules, 0, x).told()).toArray();
    }

    private static int winnerIn(List<Plain> rules, int x) {
        return IntStream.range(0, rules.size())
            .filter(r -> rules.get(r).low <= x && x <= rules.get(r).high).findFirst().orElse(NONE);
    }

    /** Runs as first point, how many, winner. */
    private static List<int[]> runsOf(List<Plain> rules) {
        List<int[]> runs = new ArrayList<>();
        for (int x = 0; x < 26 && !rules.isEmpty(); x++) {
            int winner = winnerIn(rules, x);
            int[] last = runs.isEmpty() ? null : runs.get(runs.size() - 1);
            if (last != null && last[2] == winner) last[1]++;
            else runs.add(new int[] {x, 1, winner});
        }
        return runs;
    }

    private static int shadowedIn(List<Plain> rules) {
        int set = (1 << rules.size()) - 1;
        for (int x = 0; x < 26; x++) {
            int winner = winnerIn(rules, x);
            if (winner != NONE) set &= ~(1 << winner);
        }
        return set;
    }

    private static boolean in(int v, int least, int most) {
        return least <= v && v <= most;
    }

    private int faulted(int which) {
        fault = which;
        return -10 - which;
    }

    private static int length(Object row) {
        return java.lang.reflect.Array.getLength(row);
    }

    private static int at(Object row, int i) {
        return row instanceof byte[] b ? b[i] : row instanceof short[] s ? s[i] : ((int[]) row)[i];
    }

    /** Cells of a row of a lane, by the machine's own casts and indices; null: it came to a fault. */
    private int[] cells(Object row, int lane, int from, int n) {
        try {
            Object cast = lane == 0 ? (byte[]) row : lane == 1 ? (short[]) row : (int[]) row;
            if (cast == null) throw new NullPointerException();
            int[] cells = new int[n];
            if (from < 0 || from > length(cast)) throw new IndexOutOfBoundsException();
            for (int i = 0; i < n; i++) cells[i] = at(cast, from + i);
            return cells;
        } catch (ClassCastException e) {
            fault = 2;
        } catch (NullPointerException e) {
            fault = 1;
        } catch (NegativeArraySizeException e) {
            fault = 4;
        } catch (IndexOutOfBoundsException e) {
            fault = 3;
        }
        return null;
    }

    int rules(int sheet, int lane, int i, int n) {
        fault = 0;
        if (!in(sheet, 0, 3)) return -1;
        if (!in(lane, 0, 2)) return -2;
        // So that the machine makes no row of a thousand million cells.
        int[] codes = cells(sheets[sheet], lane, i, Math.min(n, 1000));
        if (codes == null) return -10 - fault;
        StringBuilder text = new StringBuilder();
        for (int code : codes) text.append(code < 0 || code > 255 ? '\u2603' : (char) code);
        int place = firstFault(text.toString());
        if (place >= 0) return -100 - place;
        rules = new ArrayList<>();
        for (String one : text.substring(2).split(";")) {
            rules.add(make("PBW".indexOf(one.charAt(0)), "GDJ".indexOf(one.charAt(1)), one.charAt(2) - '0',
                one.charAt(3) - 'a', one.charAt(4) - 'a'));
        }
        readings.clear();
        return rules.size();
    }

    private static boolean isText(String text) {
        if (!text.matches("q(;[PBW][GDJ][1-9][a-z][a-z]){1,7}")) return false;
        for (String one : text.substring(2).split(";")) {
            if (one.charAt(3) > one.charAt(4)) return false;
        }
        return true;
    }

    /** Whether some text goes on from these codes: one of the ways of ending them makes one. */
    private static boolean isBeginning(String codes) {
        for (String end : new String[] {"", "q;PG1zz", ";PG1zz", "PG1zz", "G1zz", "1zz", "zz", "z"}) {
            if (isText(codes + end)) return true;
        }
        return false;
    }

    private static int firstFault(String text) {
        for (int p = 0; p < text.length(); p++) {
            if (!isBeginning(text.substring(0, p + 1))) return p;
        }
        return isText(text) ? -1 : text.length();
    }

    int ofRule(int r, int what) {
        if (!in(r, 0, rules.size() - 1)) return -1;
        Plain rule = rules.get(r);
        if (!in(what, 0, 6)) return -2;
        int won = (int) IntStream.range(0, 26).filter(x -> winnerIn(rules, x) == r).count();
        return new int[] {rule.kind(), rule.deed, rule.number, rule.low, rule.high, rule.worth(), won}[what];
    }

    int number(int r, int v) {
        if (!in(r, 0, rules.size() - 1)) return -1;
        if (!in(v, 1, 9)) return -2;
        Plain was = rules.get(r);
        rules.set(r, with(was, was.kind(), v));
        return was.number;
    }

    int insert(int k, int kind, int deed, int number, int low, int high) {
        if (rules.isEmpty()) return -3;
        boolean as = in(k, 0, rules.size()) && in(kind, 0, 2) && in(deed, 0, 2) && in(number, 1, 9)
            && 0 <= low && low <= high && high <= 25;
        if (!as) return -2;
        if (rules.size() == 7) return -4;
        rules.add(k, make(kind, deed, number, low, high));
        return rules.size();
    }

    int remove(int r) {
        if (!in(r, 0, rules.size() - 1)) return -1;
        if (rules.size() == 1) return -3;
        rules.remove(r);
        return rules.size();
    }

    int swap(int r) {
        if (!in(r, 0, rules.size() - 2)) return -1;
        rules.add(r + 1, rules.remove(r));
        return r;
    }

    int winner(int x) {
        if (!in(x, 0, 25)) return -2;
        return rules.isEmpty() ? -3 : winnerIn(rules, x);
    }

    int ask(int x, int what) {
        if (!in(x, 0, 25) || !(what == 0 || what == 1 || in(what, 10, 17))) return -2;
        if (rules.isEmpty()) return -3;
        Answer answer = asking(rules, 0, x);
        if (what == 0) return answer.told();
        if (what == 1) return answer.denials.size();
        return what - 10 < answer.denials.size() ? answer.denials.get(what - 10) : NONE;
    }

    int day(int sheet, int lane, int i, int n, int what) {
        fault = 0;
        if (!in(sheet, 0, 3)) return -1;
        if (!in(lane, 0, 2) || !in(n, 0, 20) || !(in(what, 0, 4) || in(what, 10, 35))) return -2;
        int[] pairs = cells(sheets[sheet], lane, i, 2 * n);
        if (pairs == null) return -10 - fault;
        if (rules.isEmpty()) return -3;
        for (int p = 0; p < n; p++) {
            int a = pairs[2 * p];
            int b = pairs[2 * p + 1];
            boolean act = in(b, 0, 6) && in(a, 1, 9) || in(b, 10, 16) && a == 0 || b == 20 && in(a, 0, 5);
            if (!act) return -2;
        }
        List<Plain> then = new ArrayList<>(rules);
        int wrong = played(then, pairs);
        if (what == 1) return wrong;
        if (wrong != NONE) return -100 - wrong;
        int[] worths = worths(then);
        if (what == 0) return (int) IntStream.of(worths).filter(w -> w == NONE).count();
        if (what == 2) return shadowedIn(then);
        if (what == 3) return runsOf(then).size();
        if (what == 4) return IntStream.of(worths).filter(w -> w != NONE).sum();
        return worths[what - 10];
    }

    private int played(List<Plain> then, int[] pairs) {
        for (int p = 0; 2 * p < pairs.length; p++) {
            int a = pairs[2 * p];
            int b = pairs[2 * p + 1];
            int last = b == 20 ? a + 1 : b % 10;
            if (last >= then.size() || in(b, 10, 16) && then.size() == 1) return p;
            if (b == 20) then.add(a, then.remove(a + 1));
            else if (b >= 10) then.remove(b - 10);
            else then.set(b, with(then.get(b), then.get(b).kind(), a));
        }
        return NONE;
    }

    int ofRun(int k, int what) {
        List<int[]> runs = runsOf(rules);
        if (!in(k, 0, runs.size() - 1)) return -1;
        return in(what, 0, 2) ? runs.get(k)[what] : -2;
    }

    int whole(int what) {
        if (!in(what, 0, 4)) return -2;
        if (rules.isEmpty()) return -3;
        int[] worths = worths(rules);
        if (what == 0) return runsOf(rules).size();
        if (what == 1) return shadowedIn(rules);
        if (what == 3) return (int) IntStream.of(worths).filter(w -> w == NONE).count();
        if (what == 4) return IntStream.of(worths).filter(w -> w != NONE).sum();
        int set = 0;
        for (int r = 0; r < rules.size(); r++) {
            List<Plain> others = new ArrayList<>(rules);
            others.remove(r);
            if (!java.util.Arrays.equals(worths, worths(others))) set |= 1 << r;
        }
        return set;
    }

    int reading(int x, int v) {
        if (rules.isEmpty()) return -3;
        if (!in(x, 0, 25) || !(in(v, 0, 200) || v == NONE)) return -2;
        if (readings.size() == 8) return -4;
        readings.add(new Reading(x, v));
        return readings.size() - 1;
    }

    int back(int n) {
        if (!in(n, 0, readings.size())) return -2;
        for (int k = 0; k < n; k++) readings.remove(readings.size() - 1);
        return readings.size();
    }

    private boolean areSo(int r, Plain inPlace) {
        List<Plain> then = new ArrayList<>(rules);
        then.set(r, inPlace);
        return readings.stream().allMatch(one -> asking(then, 0, one.point).told() == one.worth);
    }

    int kinds(int r) {
        if (!in(r, 0, rules.size() - 1)) return -1;
        Plain rule = rules.get(r);
        return IntStream.rangeClosed(0, 2).filter(kind -> areSo(r, with(rule, kind, rule.number)))
            .map(kind -> 1 << kind).sum();
    }

    int numbers(int r) {
        if (!in(r, 0, rules.size() - 1)) return -1;
        Plain rule = rules.get(r);
        return IntStream.rangeClosed(1, 9).filter(number -> areSo(r, with(rule, rule.kind(), number)))
            .map(number -> 1 << number).sum();
    }

    long odds(int v, int which) {
        if (!in(v, 0, 200) || !in(which, 0, 1) || rules.isEmpty()) return LOST;
        int upper = (int) IntStream.of(worths(rules)).filter(w -> w != NONE && w >= v).count();
        int common = java.math.BigInteger.valueOf(upper).gcd(java.math.BigInteger.valueOf(26)).intValue();
        return which == 0 ? upper / common : 26 / common;
    }

    int sheet(int k, int lane, int n) {
        fault = 0;
        if (!in(k, 0, 3)) return -1;
        if (!in(lane, 0, 2) || n > 60) return -2;
        if (n < 0) return faulted(4);
        sheets[k] = lane == 0 ? new byte[n] : lane == 1 ? new short[n] : new int[n];
        return 1;
    }

    int lose(int k) {
        if (!in(k, 0, 3)) return -1;
        int had = sheets[k] == null ? 0 : 1;
        sheets[k] = null;
        return had;
    }

    int put(int k, int i, int v) {
        fault = 0;
        if (!in(k, 0, 3)) return -1;
        Object row = sheets[k];
        if (row == null) return faulted(1);
        if (!in(i, 0, length(row) - 1)) return faulted(3);
        if (row instanceof byte[] b) b[i] = (byte) v;
        else if (row instanceof short[] s) s[i] = (short) v;
        else ((int[]) row)[i] = v;
        return 1;
    }

    long cell(int k, int i, int lane) {
        fault = 0;
        if (!in(k, 0, 3) || !in(lane, 0, 2)) return LOST;
        int[] one = cells(sheets[k], lane, i, 1);
        return one == null ? LOST : one[0];
    }

    int copy(int k, int i, int other, int j, int n) {
        fault = 0;
        if (!in(k, 0, 3) || !in(other, 0, 3)) return -1;
        if (sheets[k] == null || sheets[other] == null) return faulted(1);
        try {
            System.arraycopy(sheets[k], i, sheets[other], j, n);
            return n;
        } catch (ArrayStoreException e) {
            return faulted(2);
        } catch (IndexOutOfBoundsException e) {
            return faulted(3);
        }
    }

    int tell(int r) {
        return in(r, 0, rules.size() - 1) ? rules.get(r).telling() : -1;
    }

    int cite(int r) {
        return in(r, 0, rules.size() - 1) ? rules.get(r).citing() : -1;
    }

    int as(int r, int kind) {
        fault = 0;
        if (!in(r, 0, rules.size() - 1)) return -1;
        if (!in(kind, 0, 2)) return -2;
        Object rule = rules.get(r);
        boolean is = kind == 0 ? rule instanceof Plain : kind == 1 ? rule instanceof Bulky : rule instanceof Double;
        return is ? 1 : faulted(2);
    }

    int trace() {
        return trace;
    }

    int fault() {
        return fault;
    }

    int many(int what) {
        if (!in(what, 0, 2)) return -2;
        return what == 0 ? rules.size() : what == 1 ? runsOf(rules).size() : readings.size();
    }
}
