import java.lang.reflect.Method;
import java.lang.reflect.Modifier;
import java.util.ArrayList;
import java.util.Arrays;
import java.util.Comparator;
import java.util.List;

/** What the tests of the boundary cases share: each of their methods tests one sentence of the document. */
abstract class Edges {
    static final int UNKNOWN = -1, OUTSIDE = -2, STATE = -3, FULL = -4, NO = -5, NONE = -6;
    static final int GONE = -1000000000;
    static final int LAST_TIME = 9999;
    /** Numbers that no call takes for anything. */
    static final String[] FAR = {"min", "-1000000", "1000000", "max"};

    /** Four nodes, nothing as at first, but no packets yet; TIME is 7. */
    static final String[] STIRRED = {"nodes(4)", "block(3)", "clock(0, 11)", "clock(1, -99)", "clock(3, 99)",
        "link(0, 1, 4)", "link(1, 4, 3)", "link(1, 5, 1)", "link(2, 0, 9)", "link(2, 3, 7)", "pause(6)",
        "sound(0, 2)"};
    /** The same with packets and images: 12 packets are sent, TIME is 21. */
    static final String[] RICH = with(STIRRED, "image(0)", "send(10)", "sound(0, 3)", "image(1)", "send(2)",
        "sound(1, 2)");
    static final int RICH_TIME = 21;
    static final String[] RICH_OF_PACKETS = with(RICH, "send(60)", "send(60)", "send(60)", "send(8)");
    static final String[] RICH_LATE = with(RICH, pauses(LAST_TIME - RICH_TIME));
    static final String[] TWO_HUNDRED = {"send(60)", "send(60)", "send(60)", "send(20)"};

    static final Due DUE = new Due();

    static Run run(String sentence, String... before) {
        return new Run(DUE, sentence, before);
    }

    static String[] with(String[] first, String... more) {
        String[] both = Arrays.copyOf(first, first.length + more.length);
        System.arraycopy(more, 0, both, first.length, more.length);
        return both;
    }

    /** Pauses that let so many ticks go by. */
    static String[] pauses(int ticks) {
        List<String> calls = new ArrayList<>();
        for (int left = ticks; left > 0; left -= 999) {
            calls.add("pause(" + Math.min(left, 999) + ")");
        }
        return calls.toArray(new String[0]);
    }

    /** Runs every test of a class, so that none can be forgotten. */
    static void testAll(Class<?> tests) throws ReflectiveOperationException {
        Method[] methods = tests.getDeclaredMethods();
        Arrays.sort(methods, Comparator.comparing(Method::getName));
        int made = 0;
        for (Method m : methods) {
            boolean isTest = !m.isSynthetic() && !Modifier.isPrivate(m.getModifiers()) && m.getParameterCount() == 0;
            if (isTest) {
                m.invoke(null);
                made++;
            }
        }
        System.out.println(made + " tests");
        DUE.end();
    }
}
