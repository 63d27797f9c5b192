import java.util.ArrayList;
import java.util.List;

/**
 * All that an object tells after a run of calls. What can't be asked at once (the clocks once packets
 * were sent, what the images hold) is asked of further objects, on which the run and some calls more
 * were made; no object gets more calls than the document promises.
 */
final class Whole {
    /** What leads to each look: nothing; what shows the clocks; each image, and its clocks. */
    private static final List<List<String>> LOOKS = List.of(List.of(), List.of("send(1)"), List.of("sound(0, 1)"),
        List.of("restore(0)"), List.of("restore(0)", "send(1)"), List.of("restore(1)"),
        List.of("restore(1)", "send(1)"));
    private static final List<Call> READINGS = new ArrayList<>();
    private static final List<String> NAMES = new ArrayList<>();

    static {
        for (int what = 0; what <= 50; what++) {
            read("count(" + what + ")");
        }
        for (int from = 0; from < 5; from++) {
            for (int to = from + 1; to < 5; to++) {
                read("apart(" + from + ", " + to + ", 0)");
                read("apart(" + from + ", " + to + ", 1)");
            }
        }
        for (int b = 0; b < 200; b++) {
            for (int node = 0; node < 5; node++) {
                read("kept(" + node + ", " + b + ", 0)");
                read("kept(" + node + ", " + b + ", 1)");
            }
        }
        // These change what they ask, so nothing is asked after them.
        for (int node = 0; node < 5; node++) {
            read("clock(" + node + ", 0)");
        }
    }

    private Whole() { }

    private static void read(String call) {
        READINGS.add(Call.of(call));
        NAMES.add(call);
    }

    static String nameOf(int at) {
        return LOOKS.get(at / NAMES.size()) + " " + NAMES.get(at % NAMES.size());
    }

    static int[] after(List<String> calls) {
        int[] told = new int[LOOKS.size() * READINGS.size()];
        int at = 0;
        for (List<String> look : LOOKS) {
            List<String> before = new ArrayList<>(calls);
            before.addAll(look);
            int left = 0;
            PathSounder x = null;
            for (Call reading : READINGS) {
                if (left == 0) {
                    x = made(before);
                    left = Run.MOST_CALLS - before.size();
                }
                told[at++] = reading.on(x);
                left--;
            }
        }
        return told;
    }

    private static PathSounder made(List<String> calls) {
        if (calls.size() >= Run.MOST_CALLS) {
            throw new IllegalStateException("no calls are left to look with");
        }
        PathSounder x = new PathSounder();
        for (String call : calls) {
            Call.of(call).on(x);
        }
        return x;
    }
}
