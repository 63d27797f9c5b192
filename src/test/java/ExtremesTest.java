import java.lang.reflect.Method;
import java.util.Arrays;

/**
 * Every call with every mix of numbers at and beside the edges, in states that are empty, full and between:
 * none throws, and each answers as Model does.
 */
public final class ExtremesTest extends Edges {
    private static final int MIN = Integer.MIN_VALUE, MAX = Integer.MAX_VALUE;
    private static final String[] NAMES = {"nodes", "link", "clock", "block", "pause", "send", "kept", "lost",
        "took", "first", "sound", "apart", "tight", "truth", "image", "restore", "count"};
    /** For calls of up to two arguments, of three, of four and more. */
    private static final int[] MANY = {MIN, MIN + 1, -1000, -101, -100, -99, -7, -6, -2, -1, 0, 1, 2, 3, 4, 5, 6, 7, 9,
        10, 15, 16, 19, 20, 21, 22, 35, 36, 40, 45, 46, 50, 59, 60, 61, 98, 99, 100, 101, 198, 199, 200, 201, 998,
        999, 1000, 9998, 9999, 10000, MAX - 1, MAX};
    private static final int[] SOME = {MIN, -2, -1, 0, 1, 2, 3, 4, 5, 6, 9, 10, 20, 21, 199, 200, MAX};
    private static final int[] FEW = {MIN, -1, 0, 1, 2, 4, 5, 199, 200, MAX};
    private static final String[][] STATES = {
        {},
        {"nodes(2)"},
        {"nodes(5)", "sound(0, 4)", "sound(1, 3)", "sound(2, 3)", "sound(0, 1)"},
        STIRRED,
        RICH,
        RICH_OF_PACKETS,
        RICH_LATE,
        with(new String[] {"nodes(2)", "block(1)", "clock(1, -99)", "sound(0, 1)"}, TWO_HUNDRED),
        with(new String[] {"nodes(5)", "block(20)", "link(3, 4, 1)", "sound(0, 4)", "image(1)"}, TWO_HUNDRED),
    };

    private static PathSounder program;
    private static Model model;
    private static int callsLeft = 0;

    public static void main(String[] args) throws ReflectiveOperationException {
        for (String[] state : STATES) {
            for (String name : NAMES) {
                callsLeft = 0;
                askAll(state, name);
            }
        }
        DUE.end();
    }

    private static Method methodOf(Class<?> asked, String name) {
        return Arrays.stream(asked.getDeclaredMethods()).filter(m -> m.getName().equals(name)).findFirst()
            .orElseThrow();
    }

    private static void askAll(String[] state, String name) throws ReflectiveOperationException {
        Method asked = methodOf(PathSounder.class, name);
        Method told = methodOf(Model.class, name);
        int width = asked.getParameterCount();
        int[] numbers = width <= 2 ? MANY : width == 3 ? SOME : FEW;
        int mixes = (int) Math.round(Math.pow(numbers.length, width));
        Object[] given = new Object[width];
        for (int mix = 0; mix < mixes; mix++) {
            for (int i = 0, left = mix; i < width; i++, left /= numbers.length) {
                given[i] = numbers[left % numbers.length];
            }
            begin(state);
            int got = (Integer) asked.invoke(program, given);
            int want = (Integer) told.invoke(model, given);
            if (got != want) {
                DUE.due("after " + Arrays.toString(state) + " and more, " + name + Arrays.toString(given), got, want);
            }
        }
        DUE.due("all mixes of " + name, 0, 0);
    }

    /** Begins anew before an object gets more calls than the document promises. */
    private static void begin(String[] state) {
        if (callsLeft == 0) {
            program = new PathSounder();
            model = new Model();
            for (String call : state) {
                Call.of(call).on(program);
                Call.of(call).on(model);
            }
            callsLeft = Run.MOST_CALLS - state.length;
        }
        callsLeft--;
    }
}
