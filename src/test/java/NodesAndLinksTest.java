/** Promises 1 to 6: a new object, nodes, link, clock, block, pause. */
public final class NodesAndLinksTest {
    private static final int GONE = PathSounder.GONE;
    private static final Due DUE = new Due();

    public static void main(String[] args) {
        newObject();
        nodesAnswersAndBeginsAnew();
        nodesLeavesImages();
        nodesRefuses();
        linkTakesEachNumber();
        linkRefuses();
        linkHoldsAfterPackets();
        clockAnswersAndForgetsBounds();
        clockForgetsEachPairOfTheNode();
        clockRefuses();
        blockAnswers();
        blockRefuses();
        pauseGoesOnToTheLastTick();
        DUE.end();
    }

    private static void due(String what, int got, int want) {
        DUE.due(what, got, want);
    }

    /** Looks at all that a new object tells, with as many nodes as it should have. */
    private static void dueAsAtFirst(String when, PathSounder x, int many) {
        due(when + " MANY", x.count(0), many);
        due(when + " TIME", x.count(1), 0);
        due(when + " PACKETS", x.count(2), 0);
        due(when + " BLOCK", x.count(3), 5);
        due(when + " BLOCKS", x.count(4), 0);
        due(when + " pairs", x.count(5), 0);
        int[] first = {5, 0, 5, 0, 0, 0};
        for (int link = 0; link < many - 1; link++) {
            for (int what = 0; what < 6; what++) {
                due(when + " link " + link + " what " + what, x.count(10 + 10 * link + what), first[what]);
            }
        }
        for (int node = 0; node < many; node++) {
            due(when + " COUNT of " + node, x.kept(node, 0, 0), 0);
            due(when + " SUM of " + node, x.kept(node, 0, 1), 0);
            due(when + " CLOCK of " + node, x.clock(node, 0), 0);
        }
        due(when + " apart", x.apart(0, 1, 0), GONE + PathSounder.NONE);
    }

    private static void newObject() {
        PathSounder x = new PathSounder();
        dueAsAtFirst("new", x, 3);
        due("new images", x.count(6), 0);
        due("new restore(0)", x.restore(0), PathSounder.STATE);
        due("new restore(1)", x.restore(1), PathSounder.STATE);
        due("new link(2, 0, 1)", x.link(2, 0, 1), PathSounder.UNKNOWN);
    }

    /** Changes everything that can be changed. */
    private static void stir(PathSounder x, int many) {
        for (int link = 0; link < many - 1; link++) {
            for (int what = 0; what < 6; what++) {
                x.link(link, what, 3);
            }
        }
        for (int node = 0; node < many; node++) {
            x.clock(node, 7 + node);
        }
        x.block(2);
        x.pause(10);
        x.send(9);
        x.sound(0, many - 1);
        x.sound(0, 1);
    }

    private static void nodesAnswersAndBeginsAnew() {
        PathSounder x = new PathSounder();
        int was = 3;
        int[] next = {5, 5, 2, 4, 3};
        for (int many : next) {
            stir(x, was);
            due("nodes(" + many + ")", x.nodes(many), was);
            dueAsAtFirst("after nodes(" + many + ")", x, many);
            was = many;
        }
    }

    private static void nodesLeavesImages() {
        PathSounder x = new PathSounder();
        x.pause(4);
        x.image(1);
        x.nodes(2);
        due("images after nodes", x.count(6), 2);
        due("restore(1) after nodes", x.restore(1), 1);
        due("MANY restored", x.count(0), 3);
        due("TIME restored", x.count(1), 4);
    }

    private static void nodesRefuses() {
        PathSounder x = new PathSounder();
        x.pause(9);
        int[] wrong = {1, 6, 0, -1, Integer.MIN_VALUE, Integer.MAX_VALUE};
        for (int v : wrong) {
            due("nodes(" + v + ")", x.nodes(v), PathSounder.OUTSIDE);
        }
        due("MANY after refusals", x.count(0), 3);
        due("TIME after refusals", x.count(1), 9);
    }

    private static void linkTakesEachNumber() {
        int[] least = {1, 0, 1, 0, 0, 0};
        int[] most = {20, 9, 20, 9, 9, 9};
        int[] first = {5, 0, 5, 0, 0, 0};
        PathSounder x = new PathSounder();
        x.nodes(5);
        for (int link = 0; link < 4; link++) {
            for (int what = 0; what < 6; what++) {
                String call = "link(" + link + ", " + what + ", ";
                due(call + "least)", x.link(link, what, least[what]), first[what]);
                due(call + "most)", x.link(link, what, most[what]), least[what]);
                due(call + "least - 1)", x.link(link, what, least[what] - 1), PathSounder.OUTSIDE);
                due(call + "most + 1)", x.link(link, what, most[what] + 1), PathSounder.OUTSIDE);
                due(call + ") told", x.count(10 + 10 * link + what), most[what]);
            }
        }
        for (int place = 0; place < 24; place++) {
            due("most of " + place, x.count(10 + 10 * (place / 6) + place % 6), most[place % 6]);
        }
    }

    private static void linkRefuses() {
        PathSounder x = new PathSounder();
        due("link(-1, 0, 5)", x.link(-1, 0, 5), PathSounder.UNKNOWN);
        due("link(2, 0, 5)", x.link(2, 0, 5), PathSounder.UNKNOWN);
        due("link(2, 9, 99)", x.link(2, 9, 99), PathSounder.UNKNOWN);
        due("link(max, 0, 5)", x.link(Integer.MAX_VALUE, 0, 5), PathSounder.UNKNOWN);
        due("link(min, 0, 5)", x.link(Integer.MIN_VALUE, 0, 5), PathSounder.UNKNOWN);
        due("link(0, -1, 5)", x.link(0, -1, 5), PathSounder.OUTSIDE);
        due("link(0, 6, 5)", x.link(0, 6, 5), PathSounder.OUTSIDE);
        due("link(0, max, 5)", x.link(0, Integer.MAX_VALUE, 5), PathSounder.OUTSIDE);
        due("link(0, min, 5)", x.link(0, Integer.MIN_VALUE, 5), PathSounder.OUTSIDE);
        due("link(0, 0, max)", x.link(0, 0, Integer.MAX_VALUE), PathSounder.OUTSIDE);
        due("link(0, 0, min)", x.link(0, 0, Integer.MIN_VALUE), PathSounder.OUTSIDE);
        x.nodes(2);
        due("link(1, 0, 5) of two nodes", x.link(1, 0, 5), PathSounder.UNKNOWN);
        due("link(0, 0, 6) of two nodes", x.link(0, 0, 6), 5);
    }

    private static void linkHoldsAfterPackets() {
        PathSounder x = new PathSounder();
        x.send(1);
        due("link(0, 0, 9) after send", x.link(0, 0, 9), 5);
        x.send(1);
        due("SUM of node 1", x.kept(1, 0, 1), 5 + 1 + 9);
    }

    private static void clockAnswersAndForgetsBounds() {
        PathSounder x = new PathSounder();
        x.nodes(4);
        due("clock(1, 99)", x.clock(1, 99), 0);
        due("clock(1, -99)", x.clock(1, -99), 99);
        for (int from = 0; from < 4; from++) {
            for (int to = from + 1; to < 4; to++) {
                x.sound(from, to);
            }
        }
        due("pairs of four nodes", x.count(5), 6);
        due("clock(1, -99) again", x.clock(1, -99), -99);
        due("pairs without node 1", x.count(5), 3);
        due("apart(0, 1, 1)", x.apart(0, 1, 1), GONE + PathSounder.NONE);
        due("apart(1, 2, 0)", x.apart(1, 2, 0), GONE + PathSounder.NONE);
        due("apart(1, 3, 1)", x.apart(1, 3, 1), GONE + PathSounder.NONE);
        due("apart(0, 2, 1)", x.apart(0, 2, 1), 8);
        due("apart(2, 3, 0)", x.apart(2, 3, 0), -4);
    }

    private static void clockForgetsEachPairOfTheNode() {
        for (int node = 0; node < 5; node++) {
            PathSounder x = new PathSounder();
            x.nodes(5);
            for (int from = 0; from < 5; from++) {
                for (int to = from + 1; to < 5; to++) {
                    x.sound(from, to);
                }
            }
            x.clock(node, 1);
            due("pairs without node " + node, x.count(5), 6);
            for (int other = 0; other < 5; other++) {
                if (other != node) {
                    String both = "(" + node + ", " + other + ")";
                    due("tight" + both, x.tight(node, other), GONE + PathSounder.NONE);
                    due("tight turned of " + both, x.tight(other, node), GONE + PathSounder.NONE);
                }
            }
        }
    }

    private static void clockRefuses() {
        PathSounder x = new PathSounder();
        x.sound(0, 1);
        due("clock(-1, 0)", x.clock(-1, 0), GONE + PathSounder.UNKNOWN);
        due("clock(3, 100)", x.clock(3, 100), GONE + PathSounder.UNKNOWN);
        due("clock(min, 0)", x.clock(Integer.MIN_VALUE, 0), GONE + PathSounder.UNKNOWN);
        due("clock(max, 0)", x.clock(Integer.MAX_VALUE, 0), GONE + PathSounder.UNKNOWN);
        due("clock(0, 100)", x.clock(0, 100), GONE + PathSounder.OUTSIDE);
        due("clock(0, -100)", x.clock(0, -100), GONE + PathSounder.OUTSIDE);
        due("clock(0, min)", x.clock(0, Integer.MIN_VALUE), GONE + PathSounder.OUTSIDE);
        x.send(1);
        due("clock(3, 0) after send", x.clock(3, 0), GONE + PathSounder.UNKNOWN);
        due("clock(0, 100) after send", x.clock(0, 100), GONE + PathSounder.OUTSIDE);
        due("clock(0, 1) after send", x.clock(0, 1), GONE + PathSounder.STATE);
        due("pairs after refusals", x.count(5), 1);
        x.send(1);
        due("SUM of node 0", x.kept(0, 0, 1), 1 + 2);
    }

    private static void blockAnswers() {
        PathSounder x = new PathSounder();
        due("block(1)", x.block(1), 5);
        due("block(20)", x.block(20), 1);
        due("block told", x.count(3), 20);
        x.block(1);
        x.send(60);
        x.send(60);
        x.send(60);
        x.send(20);
        due("blocks of 1", x.count(4), 200);
        due("the last block", x.kept(2, 199, 0), 1);
    }

    private static void blockRefuses() {
        PathSounder x = new PathSounder();
        int[] wrong = {0, 21, -1, Integer.MIN_VALUE, Integer.MAX_VALUE};
        for (int v : wrong) {
            due("block(" + v + ")", x.block(v), PathSounder.OUTSIDE);
        }
        x.sound(0, 1);
        due("block(4) after a sounding", x.block(4), 5);
        x.send(1);
        due("block(0) after send", x.block(0), PathSounder.OUTSIDE);
        due("block(5) after send", x.block(5), PathSounder.STATE);
        due("block told", x.count(3), 4);
    }

    private static void pauseGoesOnToTheLastTick() {
        PathSounder x = new PathSounder();
        int[] wrong = {0, 1000, -1, Integer.MIN_VALUE, Integer.MAX_VALUE};
        for (int n : wrong) {
            due("pause(" + n + ")", x.pause(n), PathSounder.OUTSIDE);
        }
        due("pause(1)", x.pause(1), 1);
        for (int i = 1; i <= 10; i++) {
            due("pause(999) " + i, x.pause(999), 1 + 999 * i);
        }
        due("pause(9)", x.pause(9), PathSounder.FULL);
        due("pause(1000) near the end", x.pause(1000), PathSounder.OUTSIDE);
        due("pause(8)", x.pause(8), 9999);
        due("pause(1) at the end", x.pause(1), PathSounder.FULL);
        due("TIME at the end", x.count(1), 9999);
        due("PACKETS after pauses", x.count(2), 0);
    }
}
