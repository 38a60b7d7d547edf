import java.lang.reflect.InvocationTargetException;
import java.lang.reflect.Method;
import java.lang.reflect.Modifier;
import java.util.ArrayList;
import java.util.Arrays;
import java.util.Comparator;
import java.util.List;
import java.util.Random;

/** Runs of 512 calls by a seeded order, each answer held against the model's; no call may throw. */
public final class ModelTest {
    private static final int RUNS = 4000;
    private static final int CALLS = 512;
    private static final int[] EDGES = {
        Integer.MIN_VALUE, Integer.MIN_VALUE + 9, -61, -10, -9, -2, -1, 26, 27, 43, 60, 61, 200, 201, 255, 65536,
        Integer.MAX_VALUE - 1, Integer.MAX_VALUE};

    private final Random random;
    private final RangeRules mine = new RangeRules();
    private final Model model = new Model();
    private int calls = 0;

    private ModelTest(long seed) {
        random = new Random(seed);
    }

    public static void main(String[] args) throws ReflectiveOperationException {
        List<Method> face = new ArrayList<>();
        for (Method method : RangeRules.class.getDeclaredMethods()) {
            if (Modifier.isPublic(method.getModifiers())) face.add(method);
        }
        face.sort(Comparator.comparing(Method::getName));
        Due.is("how many calls there are", face.size(), 27);
        for (int run = 0; run < RUNS; run++) new ModelTest(run).play(run, face);
        Due.end("ModelTest");
    }

    private void play(int run, List<Method> face) throws ReflectiveOperationException {
        tellRules(run);
        while (calls < CALLS) {
            int pick = random.nextInt(30);
            if (pick == 0) tellRules(run);
            else if (pick == 1) tellDay(run);
            else if (pick == 2) read(run);
            else same(run, face.get(random.nextInt(face.size())));
        }
    }

    private void same(int run, Method method) throws ReflectiveOperationException {
        Object[] args = new Object[method.getParameterCount()];
        for (int k = 0; k < args.length; k++) args[k] = argument(method.getName(), k);
        same(run, method.getName(), args);
        if (random.nextInt(3) == 0) same(run, "fault");
    }

    private void same(int run, String name, Object... args) throws ReflectiveOperationException {
        // Nothing is promised behind the 512th call.
        if (calls >= CALLS) return;
        calls++;
        Class<?>[] types = new Class<?>[args.length];
        Arrays.fill(types, int.class);
        String call = "run " + run + ": " + name + Arrays.toString(args);
        long want = ((Number) Model.class.getDeclaredMethod(name, types).invoke(model, args)).longValue();
        try {
            Due.is(call, ((Number) RangeRules.class.getMethod(name, types).invoke(mine, args)).longValue(), want);
        } catch (InvocationTargetException e) {
            Due.holds(call + " throws nothing, but threw " + e.getCause(), false);
        }
    }

    private int argument(String name, int k) {
        int pick = random.nextInt(40);
        if (pick == 0) return EDGES[random.nextInt(EDGES.length)];
        if (pick == 1) return random.nextInt();
        if (name.equals("reading") && k == 1) return random.nextInt(3) == 0 ? -9 : random.nextInt(30);
        if (name.equals("ask") || name.equals("winner") || name.equals("day")) return random.nextInt(30) - 1;
        if (name.equals("odds") && k == 0) return random.nextInt(40) - 1;
        if (name.equals("insert") && k >= 4) return k == 4 ? random.nextInt(20) : 6 + random.nextInt(20);
        if (name.equals("sheet") && k == 2) return random.nextInt(64) - 2;
        if (name.equals("lose") || name.equals("sheet")) return random.nextInt(3 + k);
        return random.nextInt(9) - 1;
    }

    /** Writes a text, mostly a right one, on some sheet, and has it taken. */
    private void tellRules(int run) throws ReflectiveOperationException {
        StringBuilder text = new StringBuilder("q");
        int rules = 1 + random.nextInt(random.nextInt(10) == 0 ? 8 : 7);
        for (int r = 0; r < rules; r++) {
            int low = random.nextInt(26);
            int high = low + random.nextInt(26 - low);
            text.append(';').append("PBW".charAt(random.nextInt(3))).append("GDJJ".charAt(random.nextInt(4)));
            text.append((char) ('1' + random.nextInt(9))).append((char) ('a' + low)).append((char) ('a' + high));
        }
        if (random.nextInt(3) == 0) {
            text.setCharAt(random.nextInt(text.length()), "q;PBWGDJ19az0{`".charAt(random.nextInt(15)));
        }
        if (random.nextInt(4) == 0) text.setLength(random.nextInt(text.length() + 1));
        int[] codes = text.chars().toArray();
        int sheet = random.nextInt(4);
        int lane = random.nextInt(3);
        write(run, sheet, lane, codes);
        same(run, "rules", sheet, lane, 0, codes.length);
        same(run, "fault");
    }

    private void tellDay(int run) throws ReflectiveOperationException {
        int pairs = random.nextInt(8);
        int[] cells = new int[2 * pairs];
        for (int p = 0; p < pairs; p++) {
            int act = random.nextInt(3);
            cells[2 * p] = act == 0 ? 1 + random.nextInt(9) : act == 1 ? 0 : random.nextInt(6);
            cells[2 * p + 1] = act == 0 ? random.nextInt(7) : act == 1 ? 10 + random.nextInt(7) : 20;
            if (random.nextInt(30) == 0) cells[2 * p + random.nextInt(2)] = random.nextInt(24) - 1;
        }
        int sheet = random.nextInt(4);
        int lane = random.nextInt(3);
        write(run, sheet, lane, cells);
        for (int what : new int[] {0, 1, 2, 3, 4, 10 + random.nextInt(26)}) {
            same(run, "day", sheet, lane, 0, pairs, what);
        }
    }

    private void write(int run, int sheet, int lane, int[] cells) throws ReflectiveOperationException {
        same(run, "sheet", sheet, lane, cells.length);
        for (int i = 0; i < cells.length; i++) same(run, "put", sheet, i, cells[i]);
    }

    /** Reads what is so, mostly, so that kinds and numbers have something left. */
    private void read(int run) throws ReflectiveOperationException {
        same(run, "back", model.many(2));
        for (int k = random.nextInt(3); k >= 0; k--) {
            int point = random.nextInt(26);
            int worth = model.ask(point, 0);
            int v = random.nextInt(5) == 0 ? worth + 1 : worth;
            same(run, "reading", point, v);
        }
        for (int r = 0; r < model.many(0); r++) {
            same(run, "kinds", r);
            same(run, "numbers", r);
        }
    }
}
