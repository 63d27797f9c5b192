/** Promises 7 to 11: send, kept, lost, took, first. */
public final class PacketsTest {
    private static final int GONE = PathSounder.GONE;
    private static final Due DUE = new Due();

    public static void main(String[] args) {
        sendCountsArrivalsAndTicks();
        sendFollowsTheWave();
        sendDrops();
        sendRefuses();
        keptTellsCountAndSum();
        keptRefuses();
        lostTellsBlocksAndAll();
        lostRefuses();
        tookIsInLowestTerms();
        tookNeedsTheSameCounts();
        tookRefuses();
        firstFindsBlockLinkAndHowMany();
        firstLooksAtAllLinksAdded();
        firstFindsEachLink();
        firstRefuses();
        DUE.end();
    }

    private static void due(String what, int got, int want) {
        DUE.due(what, got, want);
    }

    private static void sendCountsArrivalsAndTicks() {
        PathSounder x = new PathSounder();
        x.pause(3);
        due("send(60)", x.send(60), 60);
        due("TIME", x.count(1), 63);
        due("PACKETS", x.count(2), 60);
        due("BLOCKS", x.count(4), 12);
        due("send(1)", x.send(1), 1);
        due("BLOCKS with one begun", x.count(4), 13);
    }

    /** The wave of a link goes by the time at which a packet leaves the node ahead of it. */
    private static void sendFollowsTheWave() {
        PathSounder x = new PathSounder();
        x.block(1);
        x.link(0, 0, 2);
        x.link(0, 1, 2);
        x.link(1, 0, 1);
        x.link(1, 1, 9);
        x.pause(7);
        x.send(3);
        due("packet 0 at node 1", x.kept(1, 0, 1), 7 + 2 + 1);
        due("packet 0 at node 2", x.kept(2, 0, 1), 10 + 1 + 0);
        due("packet 1 at node 1", x.kept(1, 1, 1), 8 + 2 + 2);
        due("packet 1 at node 2", x.kept(2, 1, 1), 12 + 1 + 2);
        due("packet 2 at node 1", x.kept(1, 2, 1), 9 + 2 + 0);
        due("packet 2 at node 2", x.kept(2, 2, 1), 11 + 1 + 1);
    }

    private static void sendDrops() {
        PathSounder x = new PathSounder();
        x.link(0, 4, 3);
        x.link(0, 5, 2);
        due("every third is dropped", x.send(10), 7);
        x.link(0, 5, 3);
        due("none leaves 3 over by 3", x.send(10), 10);
        x.link(0, 4, 0);
        x.link(0, 5, 0);
        due("EVERY 0 drops none", x.send(10), 10);
        x.link(1, 4, 1);
        due("EVERY 1 drops all", x.send(10), 0);
        due("they came to node 1", x.lost(0, 7), 0);
        due("and not to node 2", x.lost(1, 7), 5);
        x.link(0, 4, 9);
        x.link(1, 4, 0);
        due("by the number, not by the place in the call", x.send(5), 5);
        due("number 45 is dropped", x.send(1), 0);
    }

    private static void sendRefuses() {
        PathSounder x = new PathSounder();
        int[] wrong = {0, 61, -1, Integer.MIN_VALUE, Integer.MAX_VALUE};
        for (int n : wrong) {
            due("send(" + n + ")", x.send(n), PathSounder.OUTSIDE);
        }
        x.send(60);
        x.send(60);
        x.send(60);
        due("send(21) of 20 left", x.send(21), PathSounder.FULL);
        due("PACKETS", x.count(2), 180);
        due("TIME", x.count(1), 180);
        due("send(20)", x.send(20), 20);
        due("send(1) at 200", x.send(1), PathSounder.FULL);
        due("send(61) at 200", x.send(61), PathSounder.OUTSIDE);

        PathSounder late = new PathSounder();
        for (int i = 0; i < 10; i++) {
            late.pause(999);
        }
        due("send(10) at 9990", late.send(10), PathSounder.FULL);
        due("PACKETS late", late.count(2), 0);
        due("send(9) at 9990", late.send(9), 9);
        due("TIME late", late.count(1), 9999);
        due("send(1) at 9999", late.send(1), PathSounder.FULL);
        due("clocks go on above 9999", late.kept(2, 0, 1), 5 * (9992 + 10));
    }

    private static void keptTellsCountAndSum() {
        PathSounder x = new PathSounder();
        x.block(4);
        x.clock(0, -20);
        x.clock(2, 50);
        x.pause(2);
        x.send(6);
        due("COUNT 0 0", x.kept(0, 0, 0), 4);
        due("SUM 0 0", x.kept(0, 0, 1), 2 + 3 + 4 + 5 - 80);
        due("COUNT 1 1", x.kept(1, 1, 0), 2);
        due("SUM 1 1", x.kept(1, 1, 1), 6 + 7 + 10);
        due("SUM 2 1", x.kept(2, 1, 1), 6 + 7 + 20 + 100);
        due("COUNT of a block without packets", x.kept(1, 2, 0), 0);
        due("SUM of a block without packets", x.kept(1, 199, 1), 0);
        x.send(1);
        due("COUNT 1 1 goes on", x.kept(1, 1, 0), 3);
        due("SUM 1 1 goes on", x.kept(1, 1, 1), 6 + 7 + 8 + 15);
    }

    private static void keptRefuses() {
        PathSounder x = new PathSounder();
        due("kept(-1, 0, 0)", x.kept(-1, 0, 0), GONE + PathSounder.UNKNOWN);
        due("kept(3, -1, 9)", x.kept(3, -1, 9), GONE + PathSounder.UNKNOWN);
        due("kept(max, 0, 0)", x.kept(Integer.MAX_VALUE, 0, 0), GONE + PathSounder.UNKNOWN);
        due("kept(0, -1, 0)", x.kept(0, -1, 0), GONE + PathSounder.OUTSIDE);
        due("kept(0, 200, 0)", x.kept(0, 200, 0), GONE + PathSounder.OUTSIDE);
        due("kept(0, min, 0)", x.kept(0, Integer.MIN_VALUE, 0), GONE + PathSounder.OUTSIDE);
        due("kept(0, 0, -1)", x.kept(0, 0, -1), GONE + PathSounder.OUTSIDE);
        due("kept(0, 0, 2)", x.kept(0, 0, 2), GONE + PathSounder.OUTSIDE);
    }

    private static void lostTellsBlocksAndAll() {
        PathSounder x = new PathSounder();
        x.link(0, 4, 4);
        x.link(1, 4, 2);
        x.send(12);
        due("lost(0, 0)", x.lost(0, 0), 2);
        due("lost(1, 0)", x.lost(1, 0), 1);
        due("lost(0, 1)", x.lost(0, 1), 1);
        due("lost(1, 1)", x.lost(1, 1), 1);
        due("lost(0, -1)", x.lost(0, -1), 3);
        due("lost(1, -1)", x.lost(1, -1), 3);
        due("lost of a block without packets", x.lost(0, 199), 0);
    }

    private static void lostRefuses() {
        PathSounder x = new PathSounder();
        due("lost(-1, 0)", x.lost(-1, 0), PathSounder.UNKNOWN);
        due("lost(2, -2)", x.lost(2, -2), PathSounder.UNKNOWN);
        due("lost(max, 0)", x.lost(Integer.MAX_VALUE, 0), PathSounder.UNKNOWN);
        due("lost(0, -2)", x.lost(0, -2), PathSounder.OUTSIDE);
        due("lost(0, 200)", x.lost(0, 200), PathSounder.OUTSIDE);
        due("lost(0, min)", x.lost(0, Integer.MIN_VALUE), PathSounder.OUTSIDE);
    }

    private static void dueTook(String what, PathSounder x, int[] fromToBlock, int upper, int lower) {
        due(what + " upper", x.took(fromToBlock[0], fromToBlock[1], fromToBlock[2], 0), upper);
        due(what + " lower", x.took(fromToBlock[0], fromToBlock[1], fromToBlock[2], 1), lower);
    }

    private static void tookIsInLowestTerms() {
        PathSounder x = new PathSounder();
        x.block(4);
        x.link(0, 1, 4);
        x.link(1, 1, 1);
        x.clock(1, -7);
        x.clock(2, -6);
        x.send(10);
        dueTook("5 6 7 8 less 7", x, new int[] {0, 1, 0}, -1, 2);
        dueTook("9 5 6 7 less 7", x, new int[] {0, 1, 1}, -1, 4);
        dueTook("8 9 less 7", x, new int[] {0, 1, 2}, 3, 2);
        dueTook("from 5 7 9 11 on, 1 more", x, new int[] {1, 2, 0}, 7, 1);
        PathSounder even = new PathSounder();
        even.clock(1, -5);
        even.send(5);
        dueTook("nothing", even, new int[] {0, 1, 0}, 0, 1);
    }

    private static void tookNeedsTheSameCounts() {
        PathSounder x = new PathSounder();
        x.link(1, 4, 9);
        x.send(10);
        due("a packet is missing", x.took(0, 2, 0, 0), GONE + PathSounder.NO);
        due("the lower part too", x.took(1, 2, 0, 1), GONE + PathSounder.NO);
        due("ahead of the loss", x.took(0, 1, 0, 0), 5);
        due("number 9 is missing", x.took(0, 2, 1, 0), GONE + PathSounder.NO);
        due("no packets", x.took(0, 1, 2, 0), GONE + PathSounder.NO);
        PathSounder all = new PathSounder();
        all.link(0, 4, 1);
        all.send(5);
        due("the same counts, but 0", all.took(1, 2, 0, 0), GONE + PathSounder.NO);
    }

    private static void tookRefuses() {
        PathSounder x = new PathSounder();
        due("took(-1, 1, 0, 0)", x.took(-1, 1, 0, 0), GONE + PathSounder.UNKNOWN);
        due("took(3, 0, 0, 0)", x.took(3, 0, 0, 0), GONE + PathSounder.UNKNOWN);
        due("took(0, 3, 200, 2)", x.took(0, 3, 200, 2), GONE + PathSounder.UNKNOWN);
        due("took(1, 1, 0, 0)", x.took(1, 1, 0, 0), GONE + PathSounder.OUTSIDE);
        due("took(2, 1, 0, 0)", x.took(2, 1, 0, 0), GONE + PathSounder.OUTSIDE);
        due("took(0, 1, -1, 0)", x.took(0, 1, -1, 0), GONE + PathSounder.OUTSIDE);
        due("took(0, 1, 200, 0)", x.took(0, 1, 200, 0), GONE + PathSounder.OUTSIDE);
        due("took(0, 1, 0, -1)", x.took(0, 1, 0, -1), GONE + PathSounder.OUTSIDE);
        due("took(0, 1, 0, 2)", x.took(0, 1, 0, 2), GONE + PathSounder.OUTSIDE);
        due("took(0, 1, 199, 1)", x.took(0, 1, 199, 1), GONE + PathSounder.NO);
    }

    private static void firstFindsBlockLinkAndHowMany() {
        PathSounder x = new PathSounder();
        x.nodes(4);
        due("first without packets", x.first(0, 0), PathSounder.NONE);
        x.send(10);
        x.link(2, 4, 7);
        x.send(5);
        x.link(2, 4, 0);
        x.link(1, 4, 2);
        x.send(5);
        due("block of limit 0", x.first(0, 0), 2);
        due("link of limit 0", x.first(0, 1), 2);
        due("how many of limit 0", x.first(0, 2), 1);
        due("block of limit 1", x.first(1, 0), 3);
        due("link of limit 1", x.first(1, 1), 1);
        due("how many of limit 1", x.first(1, 2), 2);
        due("block of limit 2", x.first(2, 0), PathSounder.NONE);
        due("link of limit 2", x.first(2, 1), PathSounder.NONE);
        due("how many of limit 20", x.first(20, 2), PathSounder.NONE);
    }

    private static void firstLooksAtAllLinksAdded() {
        PathSounder x = new PathSounder();
        x.nodes(5);
        x.block(20);
        x.link(1, 4, 9);
        x.link(3, 4, 2);
        x.send(20);
        due("lost(1, 0)", x.lost(1, 0), 3);
        due("lost(3, 0)", x.lost(3, 0), 8);
        due("eleven are above ten", x.first(10, 0), 0);
        due("the first link is told", x.first(10, 1), 1);
        due("and its own loss", x.first(10, 2), 3);
        due("eleven are not above eleven", x.first(11, 0), PathSounder.NONE);
    }

    private static void firstFindsEachLink() {
        for (int link = 0; link < 4; link++) {
            PathSounder x = new PathSounder();
            x.nodes(5);
            x.link(3, 4, 1);
            x.link(link, 4, link == 3 ? 1 : 9);
            x.send(5);
            due("block, lost on link " + link, x.first(4, 0), 0);
            due("link, lost on link " + link, x.first(4, 1), link);
            due("how many, lost on link " + link, x.first(4, 2), link == 3 ? 5 : 1);
        }
    }

    private static void firstRefuses() {
        PathSounder x = new PathSounder();
        due("first(-1, 0)", x.first(-1, 0), PathSounder.OUTSIDE);
        due("first(21, 0)", x.first(21, 0), PathSounder.OUTSIDE);
        due("first(min, 0)", x.first(Integer.MIN_VALUE, 0), PathSounder.OUTSIDE);
        due("first(0, -1)", x.first(0, -1), PathSounder.OUTSIDE);
        due("first(0, 3)", x.first(0, 3), PathSounder.OUTSIDE);
        due("first(20, 2)", x.first(20, 2), PathSounder.NONE);
    }
}
