import java.util.ArrayList;
import java.util.Arrays;
import java.util.List;
import java.util.Set;
import java.util.TreeSet;

/** How far each call reaches: of all that an object tells, it changes what its promise names, and no more. */
public final class ReachTest extends Edges {
    /** No packets yet, so that clocks and BLOCK can be set, and both images are kept. */
    private static final String[] KEPT = with(STIRRED, "image(0)", "image(1)");

    public static void main(String[] args) throws ReflectiveOperationException {
        testAll(ReachTest.class);
    }

    /** What differs after the call, of what can be asked at once and of what the images hold. */
    private static Set<String> changed(String[] state, String call) {
        List<String> calls = new ArrayList<>(Arrays.asList(state));
        int[] was = Whole.after(calls);
        calls.add(call);
        int[] is = Whole.after(calls);
        Set<String> names = new TreeSet<>();
        for (int at = 0; at < was.length; at++) {
            String name = Whole.nameOf(at);
            boolean atOnce = name.startsWith("[] ");
            if (was[at] != is[at] && (atOnce || name.startsWith("[restore"))) {
                names.add(atOnce ? name.substring("[] ".length()) : name);
            }
        }
        return names;
    }

    private static void dueChanges(String sentence, String[] state, String call, String... due) {
        Set<String> got = changed(state, call);
        Set<String> want = new TreeSet<>(Arrays.asList(due));
        DUE.due(sentence + ": " + call + " changes " + got + ", due is " + want, got.equals(want) ? 1 : 0, 1);
    }

    static void link() {
        dueChanges("What of a LINK is v", RICH, "link(0, 0, 6)", "count(10)");
        dueChanges("What of a LINK is v", RICH, "link(1, 4, 1)", "count(24)");
        dueChanges("What of a LINK is v", RICH, "link(2, 5, 9)", "count(35)");
    }

    static void clock() {
        dueChanges("CLOCK of a NODE is v, and all HIGHS and LOWS of it go", KEPT, "clock(0, 12)", "clock(0, 0)",
            "apart(0, 2, 0)", "apart(0, 2, 1)", "count(5)");
        dueChanges("CLOCK of a NODE is v", KEPT, "clock(1, 12)", "clock(1, 0)");
    }

    static void block() {
        dueChanges("BLOCK is v", KEPT, "block(4)", "count(3)");
    }

    static void pause() {
        dueChanges("n ticks go by, without PACKETS", RICH, "pause(1)", "count(1)");
        dueChanges("n ticks go by, without PACKETS", KEPT, "pause(999)", "count(1)");
    }

    /** Number 12 comes to the last node, number 13 is dropped by link 1: both are of block 4. */
    static void send() {
        dueChanges("n PACKETS are sent; TIME is n more then", RICH, "send(2)", "count(1)", "count(2)", "count(4)",
            "kept(0, 4, 0)", "kept(0, 4, 1)", "kept(1, 4, 0)", "kept(1, 4, 1)", "kept(2, 4, 0)", "kept(2, 4, 1)",
            "kept(3, 4, 0)", "kept(3, 4, 1)");
        dueChanges("it comes to no more NODE", with(RICH, "send(1)"), "send(1)", "count(1)", "count(2)",
            "kept(0, 4, 0)", "kept(0, 4, 1)", "kept(1, 4, 0)", "kept(1, 4, 1)");
    }

    /** A sounding as it was before, at a TIME when no link takes more, tells nothing new. */
    static void sound() {
        dueChanges("A SOUNDING, at TIME, which is 1 more then", RICH, "sound(0, 1)", "count(1)", "count(5)",
            "apart(0, 1, 0)", "apart(0, 1, 1)");
        dueChanges("A SOUNDING, at TIME, which is 1 more then", RICH, "sound(1, 2)", "count(1)");
        dueChanges("A SOUNDING, at TIME, which is 1 more then", KEPT, "sound(1, 3)", "count(1)", "count(5)",
            "apart(1, 3, 0)", "apart(1, 3, 1)");
    }

    /** Of the clocks of an image with packets nothing can be asked at once, so a state without any is kept. */
    static void image() {
        dueChanges("is kept in an IMAGE, in place of what was kept there", KEPT, "image(0)");
        dueChanges("is kept in an IMAGE, in place of what was kept there",
            with(KEPT, "pause(1)", "link(0, 0, 6)"), "image(1)",
            "[restore(1)] count(1)", "[restore(1)] count(10)", "[restore(1), send(1)] count(1)",
            "[restore(1), send(1)] count(10)", "[restore(1), send(1)] kept(0, 0, 1)",
            "[restore(1), send(1)] kept(1, 0, 1)", "[restore(1), send(1)] kept(2, 0, 1)",
            "[restore(1), send(1)] kept(3, 0, 1)");
    }

    static void restore() {
        dueChanges("All but IMAGES is as it was when it was kept",
            with(STIRRED, "image(0)", "pause(1)", "image(1)", "link(0, 0, 6)"), "restore(0)", "count(1)", "count(10)");
        dueChanges("All but IMAGES is as it was when it was kept",
            with(STIRRED, "image(0)", "pause(1)", "image(1)", "link(0, 0, 6)"), "restore(1)", "count(10)");
    }

    static void whatOnlyAsksChangesNothing() {
        for (String call : new String[] {"kept(1, 0, 1)", "lost(1, -1)", "lost(1, 0)", "took(0, 1, 0, 1)",
            "first(0, 2)", "apart(0, 3, 1)", "tight(3, 0)", "tight(1, 1)", "truth(0, 2, 4, 0, 0)",
            "truth(0, 1, 0, 1, 1)", "count(0)", "count(6)", "count(35)"}) {
            dueChanges("All that is told is as things are when it is asked", RICH, call);
        }
    }
}
