/** Promises 12 to 15: sound, apart, tight, truth. */
public final class SoundingsTest {
    private static final int GONE = PathSounder.GONE;
    private static final Due DUE = new Due();

    public static void main(String[] args) {
        soundGoesThereAndBack();
        soundIsNotDropped();
        soundRefuses();
        apartKeepsTheNarrowest();
        apartRefuses();
        tightGoesByWayOfOthers();
        tightGoesOverAllNodes();
        tightRefuses();
        truthAddsAndTakesTight();
        truthRefuses();
        DUE.end();
    }

    private static void due(String what, int got, int want) {
        DUE.due(what, got, want);
    }

    /** Each link takes its ticks by the time at which the sounding comes to it, on the way back too. */
    private static void soundGoesThereAndBack() {
        PathSounder x = new PathSounder();
        x.link(0, 0, 3);
        x.link(0, 1, 4);
        x.link(0, 2, 2);
        x.link(0, 3, 6);
        x.link(1, 0, 1);
        x.link(1, 1, 9);
        x.link(1, 2, 4);
        x.link(1, 3, 2);
        x.pause(7);
        // 7 on: there 3 + 2 to 12, 1 + 2 to 15; back 4 + 0 to 19, 2 + 5 to 26.
        due("sound(0, 2)", x.sound(0, 2), 19);
        due("TIME is one more", x.count(1), 8);
        due("HIGH", x.apart(0, 2, 1), 8 - 2);
        due("LOW", x.apart(0, 2, 0), 15 - 26 + 2);
        // 8 on: there 1 + 8 to 17; back 4 + 2 to 23.
        due("sound(1, 2)", x.sound(1, 2), 15);
        due("HIGH of one link", x.apart(1, 2, 1), 9 - 1);
        due("LOW of one link", x.apart(1, 2, 0), 17 - 23 + 1);
        due("no packets", x.count(2), 0);
    }

    private static void soundIsNotDropped() {
        PathSounder x = new PathSounder();
        x.link(0, 4, 1);
        due("a link that drops every packet", x.sound(0, 2), 20);
        due("nothing is counted", x.kept(0, 0, 0), 0);
        x.send(1);
        due("soundings after packets", x.sound(1, 2), 10);
    }

    private static void soundRefuses() {
        PathSounder x = new PathSounder();
        due("sound(-1, 1)", x.sound(-1, 1), PathSounder.UNKNOWN);
        due("sound(0, 3)", x.sound(0, 3), PathSounder.UNKNOWN);
        due("sound(3, 0)", x.sound(3, 0), PathSounder.UNKNOWN);
        due("sound(max, min)", x.sound(Integer.MAX_VALUE, Integer.MIN_VALUE), PathSounder.UNKNOWN);
        due("sound(1, 1)", x.sound(1, 1), PathSounder.OUTSIDE);
        due("sound(2, 0)", x.sound(2, 0), PathSounder.OUTSIDE);
        due("TIME after refusals", x.count(1), 0);
        for (int i = 0; i < 10; i++) {
            x.pause(999);
        }
        x.pause(8);
        due("sound(0, 1) at 9998", x.sound(0, 1), 10);
        due("sound(1, 2) at 9999", x.sound(1, 2), PathSounder.FULL);
        due("sound(2, 1) at 9999", x.sound(2, 1), PathSounder.OUTSIDE);
        due("pairs", x.count(5), 1);
        due("TIME", x.count(1), 9999);
    }

    private static void apartKeepsTheNarrowest() {
        PathSounder x = new PathSounder();
        x.clock(0, 10);
        x.clock(1, -30);
        x.sound(0, 1);
        due("LOW at first", x.apart(0, 1, 0), -44);
        due("HIGH at first", x.apart(0, 1, 1), -36);
        x.link(0, 0, 2);
        x.link(0, 2, 20);
        x.sound(0, 1);
        due("LOW stays", x.apart(0, 1, 0), -44);
        due("HIGH falls", x.apart(0, 1, 1), -39);
        x.link(0, 0, 20);
        x.link(0, 2, 1);
        x.sound(0, 1);
        due("LOW rises", x.apart(0, 1, 0), -40);
        due("HIGH stays", x.apart(0, 1, 1), -39);
        due("other pairs have none", x.apart(0, 2, 0), GONE + PathSounder.NONE);
    }

    private static void apartRefuses() {
        PathSounder x = new PathSounder();
        due("apart(-1, 1, 0)", x.apart(-1, 1, 0), GONE + PathSounder.UNKNOWN);
        due("apart(0, 3, 2)", x.apart(0, 3, 2), GONE + PathSounder.UNKNOWN);
        due("apart(3, 0, 0)", x.apart(3, 0, 0), GONE + PathSounder.UNKNOWN);
        due("apart(1, 1, 0)", x.apart(1, 1, 0), GONE + PathSounder.OUTSIDE);
        due("apart(1, 0, 0)", x.apart(1, 0, 0), GONE + PathSounder.OUTSIDE);
        due("apart(0, 1, -1)", x.apart(0, 1, -1), GONE + PathSounder.OUTSIDE);
        due("apart(0, 1, 2)", x.apart(0, 1, 2), GONE + PathSounder.OUTSIDE);
        due("apart(0, 1, 1)", x.apart(0, 1, 1), GONE + PathSounder.NONE);
    }

    private static void tightGoesByWayOfOthers() {
        PathSounder x = new PathSounder();
        x.nodes(5);
        x.clock(3, 25);
        due("of a node and itself", x.tight(4, 4), 0);
        x.sound(3, 4);
        x.sound(0, 1);
        due("no row of nodes", x.tight(0, 4), GONE + PathSounder.NONE);
        due("nor the other way", x.tight(4, 0), GONE + PathSounder.NONE);
        x.sound(0, 3);
        // APART of 0 and 1: -4 to 4; of 3 and 4: -29 to -21; of 0 and 3: 25 less 12 to 25 and 12.
        due("ahead", x.tight(0, 4), 37 - 21);
        due("back", x.tight(4, 0), 29 - 13);
        due("back, then ahead", x.tight(1, 4), 4 + 37 - 21);
        due("back over all, then ahead", x.tight(4, 1), 29 - 13 + 4);
        due("a step straight", x.tight(0, 3), 37);
        due("of a node with bounds and itself", x.tight(3, 3), 0);
        due("node 2 has none", x.tight(2, 3), GONE + PathSounder.NONE);
        x.sound(0, 4);
        due("the straight one is not always the least", x.tight(0, 4), 16);
        x.link(0, 0, 1);
        x.link(1, 0, 1);
        x.link(2, 0, 1);
        x.link(3, 0, 1);
        x.sound(0, 4);
        due("now it is", x.tight(0, 4), 0);
        due("and serves others", x.tight(0, 3), 29);
    }

    private static void tightGoesOverAllNodes() {
        PathSounder x = new PathSounder();
        x.nodes(5);
        for (int from = 0; from < 4; from++) {
            x.link(from, 0, from + 2);
            x.sound(from, from + 1);
        }
        due("from the first to the last", x.tight(0, 4), 1 + 2 + 3 + 4);
        due("from the last to the first", x.tight(4, 0), 4 * 4);
    }

    private static void tightRefuses() {
        PathSounder x = new PathSounder();
        due("tight(-1, 0)", x.tight(-1, 0), GONE + PathSounder.UNKNOWN);
        due("tight(0, 3)", x.tight(0, 3), GONE + PathSounder.UNKNOWN);
        due("tight(3, 3)", x.tight(3, 3), GONE + PathSounder.UNKNOWN);
        due("tight(max, 0)", x.tight(Integer.MAX_VALUE, 0), GONE + PathSounder.UNKNOWN);
        due("tight(0, min)", x.tight(0, Integer.MIN_VALUE), GONE + PathSounder.UNKNOWN);
    }

    private static void truthAddsAndTakesTight() {
        PathSounder x = new PathSounder();
        x.block(4);
        x.clock(1, 30);
        x.link(0, 1, 4);
        x.link(0, 2, 7);
        x.sound(0, 1);
        x.pause(4);
        x.send(6);
        // APART of 0 and 1: 35 less 12 and 1 to 35 less 1; block 0 took 26 by 4, and 30.
        due("LOW", x.apart(0, 1, 0), 24);
        due("HIGH", x.apart(0, 1, 1), 34);
        due("TOOK upper", x.took(0, 1, 0, 0), 73);
        due("TOOK lower", x.took(0, 1, 0, 1), 2);
        due("no more, upper", x.truth(0, 1, 0, 0, 0), 73 - 48);
        due("no more, lower", x.truth(0, 1, 0, 0, 1), 2);
        due("no less, upper", x.truth(0, 1, 0, 1, 0), 73 - 68);
        due("no less, lower", x.truth(0, 1, 0, 1, 1), 2);
        PathSounder none = new PathSounder();
        none.link(0, 0, 1);
        none.sound(0, 1);
        none.link(0, 0, 5);
        none.clock(2, -5);
        none.sound(1, 2);
        none.send(5);
        due("HIGH is -1", none.apart(1, 2, 1), -1);
        due("TOOK is 0", none.took(1, 2, 0, 0), 0);
        due("TOOK of 0 by 1", none.took(1, 2, 0, 1), 1);
        due("no less than 1", none.truth(1, 2, 0, 1, 0), 1);
        due("no more than 9", none.truth(1, 2, 0, 0, 0), 9);
        due("by way of node 1", none.truth(0, 2, 0, 1, 0), 5 - (0 - 1));
        due("and back", none.truth(0, 2, 0, 0, 0), 5 + (9 + 4));
    }

    private static void truthRefuses() {
        PathSounder x = new PathSounder();
        due("truth(-1, 1, 0, 0, 0)", x.truth(-1, 1, 0, 0, 0), GONE + PathSounder.UNKNOWN);
        due("truth(0, 3, 200, 2, 2)", x.truth(0, 3, 200, 2, 2), GONE + PathSounder.UNKNOWN);
        due("truth(1, 1, 0, 0, 0)", x.truth(1, 1, 0, 0, 0), GONE + PathSounder.OUTSIDE);
        due("truth(2, 1, 0, 0, 0)", x.truth(2, 1, 0, 0, 0), GONE + PathSounder.OUTSIDE);
        due("truth(0, 1, -1, 0, 0)", x.truth(0, 1, -1, 0, 0), GONE + PathSounder.OUTSIDE);
        due("truth(0, 1, 200, 0, 0)", x.truth(0, 1, 200, 0, 0), GONE + PathSounder.OUTSIDE);
        due("truth(0, 1, 0, -1, 0)", x.truth(0, 1, 0, -1, 0), GONE + PathSounder.OUTSIDE);
        due("truth(0, 1, 0, 2, 0)", x.truth(0, 1, 0, 2, 0), GONE + PathSounder.OUTSIDE);
        due("truth(0, 1, 0, 0, -1)", x.truth(0, 1, 0, 0, -1), GONE + PathSounder.OUTSIDE);
        due("truth(0, 1, 0, 0, 2)", x.truth(0, 1, 0, 0, 2), GONE + PathSounder.OUTSIDE);
        due("neither TOOK nor TIGHT", x.truth(0, 1, 0, 0, 0), GONE + PathSounder.NO);
        x.send(1);
        due("no TIGHT", x.truth(0, 1, 0, 0, 0), GONE + PathSounder.NONE);
        due("no TIGHT, the lower part", x.truth(0, 1, 0, 1, 1), GONE + PathSounder.NONE);
        x.sound(0, 1);
        due("both", x.truth(0, 1, 0, 0, 0), 9);
        due("TIGHT, but no TOOK", x.truth(0, 1, 1, 0, 0), GONE + PathSounder.NO);
    }
}
