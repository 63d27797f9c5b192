/** Promises 16 to 18: image, restore, count. */
public final class ImagesTest {
    private static final Due DUE = new Due();

    public static void main(String[] args) {
        imageKeepsAll();
        imageKeepsEachClock();
        imagesAreTwo();
        imageTakesThePlaceOfWhatWasKept();
        imageAndRestoreRefuse();
        countTells();
        countTellsBlocksThatCameNowhere();
        countRefuses();
        DUE.end();
    }

    private static void due(String what, int got, int want) {
        DUE.due(what, got, want);
    }

    private static PathSounder stirred() {
        PathSounder x = new PathSounder();
        x.nodes(4);
        x.block(3);
        x.clock(0, 11);
        x.clock(3, -40);
        for (int what = 0; what < 6; what++) {
            x.link(1, what, what + 2);
        }
        x.pause(6);
        x.send(10);
        x.sound(0, 3);
        return x;
    }

    private static void dueStirred(String when, PathSounder x) {
        due(when + " MANY", x.count(0), 4);
        due(when + " TIME", x.count(1), 17);
        due(when + " PACKETS", x.count(2), 10);
        due(when + " BLOCK", x.count(3), 3);
        due(when + " BLOCKS", x.count(4), 4);
        due(when + " pairs", x.count(5), 1);
        for (int what = 0; what < 6; what++) {
            due(when + " link 1 what " + what, x.count(20 + what), what + 2);
        }
        PathSounder same = stirred();
        for (int node = 0; node < 4; node++) {
            due(when + " COUNT " + node, x.kept(node, 3, 0), same.kept(node, 3, 0));
            due(when + " SUM " + node, x.kept(node, 3, 1), same.kept(node, 3, 1));
        }
        due(when + " LOW", x.apart(0, 3, 0), same.apart(0, 3, 0));
        due(when + " HIGH", x.apart(0, 3, 1), same.apart(0, 3, 1));
    }

    /** The clocks and the packets' number show only in what comes after. */
    private static void dueGoesOnAsStirred(String when, PathSounder x) {
        PathSounder same = stirred();
        due(when + " send(9)", x.send(9), same.send(9));
        due(when + " SUM 0", x.kept(0, 4, 1), same.kept(0, 4, 1));
        due(when + " SUM 3", x.kept(3, 4, 1), same.kept(3, 4, 1));
    }

    private static void imageKeepsAll() {
        PathSounder x = stirred();
        due("image(0)", x.image(0), 1);
        dueStirred("after image", x);
        dueGoesOnAsStirred("after image", x);
        x.sound(0, 1);
        due("restore(0)", x.restore(0), 1);
        dueStirred("after restore", x);
        x.nodes(2);
        x.clock(0, 5);
        x.send(60);
        x.link(0, 0, 1);
        x.sound(0, 1);
        due("restore(0) after nodes", x.restore(0), 1);
        dueStirred("after a second restore", x);
        dueGoesOnAsStirred("after a second restore", x);
        due("the image stays", x.count(6), 1);
    }

    private static void imageKeepsEachClock() {
        PathSounder x = new PathSounder();
        x.nodes(5);
        for (int node = 0; node < 5; node++) {
            x.clock(node, 20 + node);
        }
        x.image(1);
        x.nodes(5);
        x.restore(1);
        for (int node = 0; node < 5; node++) {
            due("CLOCK restored of " + node, x.clock(node, 0), 20 + node);
        }
    }

    private static void imagesAreTwo() {
        PathSounder x = new PathSounder();
        x.pause(1);
        x.image(1);
        due("only image 1", x.count(6), 2);
        due("restore(0) of nothing", x.restore(0), PathSounder.STATE);
        x.pause(1);
        x.image(0);
        due("both images", x.count(6), 3);
        x.pause(1);
        x.restore(1);
        due("TIME of image 1", x.count(1), 1);
        due("images are no part of an image", x.count(6), 3);
        x.restore(0);
        due("TIME of image 0", x.count(1), 2);
    }

    private static void imageTakesThePlaceOfWhatWasKept() {
        PathSounder x = new PathSounder();
        x.pause(5);
        due("image(0)", x.image(0), 1);
        x.pause(5);
        due("image(0) again", x.image(0), 1);
        x.nodes(5);
        x.restore(0);
        due("TIME of the later one", x.count(1), 10);
    }

    private static void imageAndRestoreRefuse() {
        PathSounder x = new PathSounder();
        int[] wrong = {-1, 2, 32, Integer.MIN_VALUE, Integer.MAX_VALUE};
        for (int k : wrong) {
            due("image(" + k + ")", x.image(k), PathSounder.OUTSIDE);
            due("restore(" + k + ")", x.restore(k), PathSounder.OUTSIDE);
        }
        due("no images", x.count(6), 0);
        x.pause(3);
        due("restore(1)", x.restore(1), PathSounder.STATE);
        due("TIME after a refusal", x.count(1), 3);
    }

    private static void countTells() {
        PathSounder x = new PathSounder();
        x.nodes(5);
        x.block(7);
        x.link(3, 5, 8);
        x.link(0, 0, 17);
        x.send(15);
        x.sound(1, 4);
        x.sound(1, 4);
        x.sound(0, 2);
        x.image(1);
        due("MANY", x.count(0), 5);
        due("TIME", x.count(1), 18);
        due("PACKETS", x.count(2), 15);
        due("BLOCK", x.count(3), 7);
        due("BLOCKS", x.count(4), 3);
        due("pairs", x.count(5), 2);
        due("images", x.count(6), 2);
        due("WHICH of the last link", x.count(45), 8);
        due("BASE there of link 0", x.count(10), 17);
        due("BASE back of link 2", x.count(32), 5);
    }

    private static void countTellsBlocksThatCameNowhere() {
        PathSounder x = new PathSounder();
        x.link(0, 4, 1);
        x.send(11);
        due("BLOCKS, all lost on link 0", x.count(4), 3);
    }

    private static void countRefuses() {
        PathSounder x = new PathSounder();
        int[] wrong = {-1, 7, 8, 9, 16, 19, 26, 30, 35, 40, -10, Integer.MIN_VALUE, Integer.MAX_VALUE};
        for (int what : wrong) {
            due("count(" + what + ")", x.count(what), PathSounder.OUTSIDE);
        }
        x.nodes(5);
        due("count(46)", x.count(46), PathSounder.OUTSIDE);
        due("count(50)", x.count(50), PathSounder.OUTSIDE);
        x.nodes(2);
        due("count(20) of two nodes", x.count(20), PathSounder.OUTSIDE);
        due("count(15) of two nodes", x.count(15), 0);
    }
}
