import java.lang.reflect.Method;
import java.util.Arrays;
import java.util.Random;

/** Long runs of calls, the same each time, on the program and on Model: both answer alike. */
public final class ModelTest {
    private static final int RUNS = 1500;
    private static final int CALLS = 512;
    private static final String[] NAMES = {"nodes", "link", "clock", "block", "pause", "send", "kept", "lost",
        "took", "first", "sound", "apart", "tight", "truth", "image", "restore", "count"};
    /** How many arguments each of them takes. */
    private static final int[] WIDTHS = {1, 3, 2, 1, 1, 1, 3, 2, 4, 2, 2, 3, 2, 5, 1, 1, 1};
    /** How often each of them comes in a run of each mood: in all, setting up, late, with soundings. */
    private static final int[][] MOODS = {
        {1, 8, 3, 2, 4, 6, 8, 8, 10, 8, 8, 8, 10, 14, 2, 2, 8},
        {3, 20, 20, 10, 4, 1, 2, 2, 2, 2, 12, 12, 12, 2, 2, 2, 6},
        {0, 3, 2, 1, 20, 8, 4, 4, 4, 2, 10, 4, 4, 6, 1, 1, 4},
        {0, 10, 1, 1, 4, 1, 2, 2, 6, 2, 20, 10, 20, 20, 1, 1, 2},
    };
    private static final int[] EXTREMES = {Integer.MIN_VALUE, Integer.MAX_VALUE, -1, -2, -100, 6, 21, 61, 100, 200,
        1000, 10000};

    public static void main(String[] args) throws ReflectiveOperationException {
        Due due = new Due();
        Method[] program = methodsOf(PathSounder.class);
        Method[] told = methodsOf(Model.class);
        for (int run = 0; run < RUNS; run++) {
            play(due, run, program, told);
        }
        due.end();
    }

    private static void play(Due due, int run, Method[] program, Method[] told)
            throws ReflectiveOperationException {
        Random random = new Random(run);
        int[] mood = MOODS[run % MOODS.length];
        PathSounder x = new PathSounder();
        Model model = new Model();
        for (int i = 0; i < CALLS; i++) {
            int call = i == 0 ? 0 : pick(random, mood);
            int[] a = arguments(random, call);
            String where = "run " + run + " call " + i + ": " + NAMES[call]
                + Arrays.toString(Arrays.copyOf(a, WIDTHS[call]));
            due.due(where, ask(program[call], x, a), ask(told[call], model, a));
        }
    }

    private static int pick(Random random, int[] mood) {
        int left = random.nextInt(Arrays.stream(mood).sum());
        int call = 0;
        while (left >= mood[call]) {
            left -= mood[call];
            call++;
        }
        return call;
    }

    private static int[] arguments(Random random, int call) {
        int[] a = likely(random, call);
        if (random.nextInt(12) == 0) {
            a[random.nextInt(WIDTHS[call])] = EXTREMES[random.nextInt(EXTREMES.length)];
        }
        return a;
    }

    private static int node(Random r) {
        return r.nextInt(5) + (r.nextInt(20) == 0 ? 1 : 0);
    }

    private static int someBlock(Random r) {
        return r.nextInt(4) == 0 ? r.nextInt(201) : r.nextInt(12);
    }

    /** Arguments of which most fit, and some lie just outside. */
    private static int[] likely(Random r, int call) {
        int from = r.nextInt(5) == 0 ? node(r) : r.nextInt(3);
        int to = r.nextInt(5) == 0 ? node(r) : from + 1 + r.nextInt(2);
        switch (NAMES[call]) {
            case "nodes": return new int[] {1 + r.nextInt(6), 0, 0, 0, 0};
            case "link": return new int[] {r.nextInt(5), r.nextInt(7), r.nextInt(r.nextInt(3) == 0 ? 22 : 10), 0, 0};
            case "clock": return new int[] {node(r), r.nextInt(203) - 101, 0, 0, 0};
            case "block": return new int[] {r.nextInt(22), 0, 0, 0, 0};
            case "pause": return new int[] {r.nextBoolean() ? 1 + r.nextInt(30) : r.nextInt(1001), 0, 0, 0, 0};
            case "send": return new int[] {r.nextInt(4) == 0 ? r.nextInt(62) : 1 + r.nextInt(9), 0, 0, 0, 0};
            case "kept": return new int[] {node(r), someBlock(r), r.nextInt(2), 0, 0};
            case "lost": return new int[] {r.nextInt(5), someBlock(r) - 1, 0, 0, 0};
            case "took": return new int[] {from, to, someBlock(r), r.nextInt(2), 0};
            case "first": return new int[] {r.nextInt(r.nextBoolean() ? 3 : 21), r.nextInt(3), 0, 0, 0};
            case "sound": return new int[] {from, to, 0, 0, 0};
            case "apart": return new int[] {from, to, r.nextInt(2), 0, 0};
            case "tight": return new int[] {node(r), node(r), 0, 0, 0};
            case "truth": return new int[] {from, to, someBlock(r), r.nextInt(2), r.nextInt(2)};
            case "count": return new int[] {r.nextBoolean() ? r.nextInt(8) : r.nextInt(60) - 2, 0, 0, 0, 0};
            default: return new int[] {r.nextInt(2), 0, 0, 0, 0};
        }
    }

    /** By name, so that the program and the model are asked in the very same way. */
    private static Method[] methodsOf(Class<?> asked) throws NoSuchMethodException {
        Method[] methods = new Method[NAMES.length];
        for (int call = 0; call < NAMES.length; call++) {
            Class<?>[] types = new Class<?>[WIDTHS[call]];
            Arrays.fill(types, int.class);
            methods[call] = asked.getDeclaredMethod(NAMES[call], types);
        }
        return methods;
    }

    private static int ask(Method method, Object x, int[] a) throws ReflectiveOperationException {
        Object[] given = Arrays.stream(a).limit(method.getParameterCount()).boxed().toArray();
        return (Integer) method.invoke(x, given);
    }
}
