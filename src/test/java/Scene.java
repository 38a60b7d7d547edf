import java.lang.reflect.InvocationTargetException;
import java.lang.reflect.Method;
import java.util.ArrayList;
import java.util.Arrays;
import java.util.List;
import java.util.Set;
import java.util.stream.Collectors;

/**
 * Objects that have something of everything, and calls on them that must leave all as it is: the object is
 * held against another one, made alike, on which the call was not made.
 */
final class Scene {
    static final String NO_RULES = "";
    static final String ONE = "q;BG4cx";
    // 0: asks on by 3, a..h; 1: bulky, gives 4, d..i; 2: double, denies, c..z
    static final String THREE = "q;PJ3ah;BG4di;WD2cz";
    static final String SEVEN = "q;PG1ac;BD2cd;WJ3eh;PG4fl;BJ5mm;WG6lz;PD7az";
    /** Numbers that are no number of anything. */
    static final int[] FAR = {Integer.MIN_VALUE, -1, 61, Integer.MAX_VALUE};
    static final int SHORTS = 1, INTS = 2, NOTHING = 3;

    private static final int LATEST_FAULT = 3;
    private static final Set<String> NAMES_FAULTS = Set.of("rules", "day", "sheet", "put", "cell", "copy", "as");

    private Scene() {
    }

    /**
     * Sheet 0 has the text (bytes), 1 four shorts, 2 three ints, 3 nothing. There are two readings that are so,
     * TRACE is not 0 where there are rules, and fault() is 3.
     */
    static RangeRules of(String text) {
        RangeRules x = new RangeRules();
        Due.write(x, 0, 0, text.isEmpty() ? "q;" : text);
        if (!text.isEmpty()) {
            Due.is("rules of " + text, x.rules(0, 0, 0, text.length()), (text.length() - 1) / 6);
            x.reading(0, x.ask(0, 0));
            x.reading(25, x.ask(25, 0));
            x.tell(0);
        }
        Due.row(x, SHORTS, 1, 300, -300, 5, 0);
        Due.row(x, INTS, 2, 70000, 1, 0);
        Due.is("put beyond", x.put(SHORTS, 4, 0), -13);
        return x;
    }

    /** A call by its name, so that it can be told as it was made. */
    static long call(RangeRules x, String name, int... args) {
        Class<?>[] types = new Class<?>[args.length];
        Arrays.fill(types, int.class);
        try {
            Method method = RangeRules.class.getMethod(name, types);
            return ((Number) method.invoke(x, Arrays.stream(args).boxed().toArray())).longValue();
        } catch (InvocationTargetException e) {
            Due.holds(told(name, args) + " throws nothing, but threw " + e.getCause(), false);
            return Long.MAX_VALUE;
        } catch (ReflectiveOperationException e) {
            Due.holds("there is a call " + told(name, args), false);
            return Long.MAX_VALUE;
        }
    }

    private static String told(String name, int... args) {
        return name + Arrays.stream(args).mapToObj(Integer::toString).collect(Collectors.joining(", ", "(", ")"));
    }

    static void answers(RangeRules x, long due, String name, int... args) {
        Due.is(told(name, args), call(x, name, args), due);
    }

    /** A refusal: a call that names faults sets fault() to 0, any other leaves it. */
    static void refuses(String text, long due, String name, int... args) {
        changesNothing(text, due, NAMES_FAULTS.contains(name) ? 0 : LATEST_FAULT, name, args);
    }

    static void faults(String text, int which, String name, int... args) {
        long due = name.equals("cell") ? RangeRules.LOST : -10 - which;
        changesNothing(text, due, which, name, args);
    }

    /** An answer that leaves all as it is, fault() too. */
    static void tellsOnly(String text, long due, String name, int... args) {
        changesNothing(text, due, NAMES_FAULTS.contains(name) ? 0 : LATEST_FAULT, name, args);
    }

    private static void changesNothing(String text, long due, int fault, String name, int... args) {
        RangeRules x = of(text);
        answers(x, due, name, args);
        Due.is("fault() behind " + told(name, args), x.fault(), fault);
        Due.holds(told(name, args) + " changes nothing", seen(x).equals(seen(of(text))));
    }

    /** All that can be seen of an object but fault(); the sheets have nothing behind it. */
    private static List<Long> seen(RangeRules x) {
        List<Long> seen = new ArrayList<>();
        for (int what = 0; what <= 2; what++) seen.add((long) x.many(what));
        seen.add((long) x.trace());
        for (int r = 0; r < x.many(0); r++) {
            for (int what = 0; what <= 5; what++) seen.add((long) x.ofRule(r, what));
            seen.add((long) x.kinds(r));
            seen.add((long) x.numbers(r));
        }
        for (int k = 0; k < 4; k++) {
            for (int lane = 0; lane <= 2; lane++) addRow(seen, x, k, lane);
            seen.add((long) x.lose(k));
        }
        return seen;
    }

    private static void addRow(List<Long> seen, RangeRules x, int k, int lane) {
        long cell = x.cell(k, 0, lane);
        for (int i = 1; i <= 60 && cell != RangeRules.LOST; i++) {
            seen.add(cell);
            cell = x.cell(k, i, lane);
        }
        seen.add(cell);
    }
}
