import java.util.Random;

/**
 * Bounds hold what is true. A twin gets the same calls with all clocks right, so that its TOOK is how long
 * packets took in truth; the clocks that were set tell how far apart they are.
 */
public final class BoundsHoldTest {
    private static final int GONE = PathSounder.GONE, NO = PathSounder.NO, NONE = PathSounder.NONE;
    private static final int RUNS = 600;
    private static final int STEPS = 24;
    private static final Due DUE = new Due();

    private final String name;
    private final Random random;
    private final int many;
    private final int[] clocks = new int[5];
    private final PathSounder x = new PathSounder();
    private final PathSounder twin = new PathSounder();

    private BoundsHoldTest(int run) {
        name = "run " + run + ": ";
        random = new Random(run);
        many = 2 + run % 4;
    }

    public static void main(String[] args) {
        for (int run = 0; run < RUNS; run++) {
            new BoundsHoldTest(run).test();
        }
        DUE.end();
    }

    private void dueTrue(String what, boolean holds) {
        DUE.due(name + what, holds ? 1 : 0, 1);
    }

    private void test() {
        x.nodes(many);
        twin.nodes(many);
        for (int node = 0; node < many; node++) {
            clocks[node] = random.nextInt(199) - 99;
            x.clock(node, clocks[node]);
        }
        for (int i = 0; i < STEPS; i++) {
            step();
        }
        for (int a = 0; a < many; a++) {
            for (int b = 0; b < many; b++) {
                dueTightHolds(a, b);
                if (a < b) {
                    dueApartHolds(a, b);
                    dueTruthHolds(a, b, random.nextInt(5));
                }
            }
        }
    }

    private void step() {
        int link = random.nextInt(many - 1);
        int to = link + 1 + random.nextInt(many - 1 - link);
        int what = random.nextInt(6);
        // Most links drop nothing, for where packets are lost there is no TOOK.
        int v = what < 4 || random.nextInt(4) == 0 ? 1 + random.nextInt(9) : 0;
        int n = 1 + random.nextInt(9);
        switch (random.nextInt(4)) {
            case 0:
                DUE.due(name + "link", x.link(link, what, v), twin.link(link, what, v));
                break;
            case 1:
                DUE.due(name + "pause", x.pause(n), twin.pause(n));
                break;
            case 2:
                DUE.due(name + "send, which clocks don't hold up", x.send(n), twin.send(n));
                break;
            default:
                DUE.due(name + "sound, which clocks don't hold up", x.sound(link, to), twin.sound(link, to));
                break;
        }
    }

    private void dueApartHolds(int from, int to) {
        int low = x.apart(from, to, 0);
        int high = x.apart(from, to, 1);
        int apart = clocks[to] - clocks[from];
        if (low == GONE + NONE) {
            DUE.due(name + "HIGH goes with LOW", high, GONE + NONE);
            return;
        }
        dueTrue("APART " + apart + " is no less than " + low + ", no more than " + high, low <= apart && apart <= high);
        dueTrue("TIGHT is no more than HIGH", x.tight(from, to) <= high);
        dueTrue("TIGHT is no more than LOW with the sign turned", x.tight(to, from) <= -low);
        DUE.due(name + "LOW moves with the clocks", low, twin.apart(from, to, 0) + apart);
        DUE.due(name + "HIGH moves with the clocks", high, twin.apart(from, to, 1) + apart);
    }

    private void dueTightHolds(int a, int b) {
        int tight = x.tight(a, b);
        if (tight == GONE + NONE) {
            DUE.due(name + "nothing follows either way round", x.tight(b, a), GONE + NONE);
            return;
        }
        int apart = clocks[b] - clocks[a];
        dueTrue("APART " + apart + " is no more than TIGHT " + tight, apart <= tight);
        DUE.due(name + "TIGHT moves with the clocks", tight, twin.tight(a, b) + apart);
        for (int c = 0; c < many; c++) {
            if (x.tight(a, c) != GONE + NONE) {
                dueTrue("no way by " + c + " is less", tight <= x.tight(a, c) + x.tight(c, b));
            }
        }
    }

    private void dueTruthHolds(int from, int to, int b) {
        int upper = twin.took(from, to, b, 0);
        int lower = twin.took(from, to, b, 1);
        for (int what = 0; what < 2; what++) {
            int told = x.truth(from, to, b, what, 0);
            int by = x.truth(from, to, b, what, 1);
            if (upper == GONE + NO || told == GONE + NONE) {
                int want = upper == GONE + NO ? GONE + NO : GONE + NONE;
                DUE.due(name + "truth", told, want);
                DUE.due(name + "truth", by, want);
                continue;
            }
            long more = (long) told * lower - (long) upper * by;
            String words = " than " + told + " by " + by;
            dueTrue(upper + " by " + lower + (what == 0 ? " is no more" : " is no less") + words,
                what == 0 ? more >= 0 : more <= 0);
        }
    }
}
