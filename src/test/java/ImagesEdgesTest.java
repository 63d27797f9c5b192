/** The boundary cases of promises 16 to 18, each sentence with a test of its own. */
public final class ImagesEdgesTest extends Edges {
    /** Changes everything that can be changed where packets were sent. */
    private static final String[] CHANGES = {"link(0, 0, 20)", "link(1, 4, 0)", "link(2, 5, 9)", "pause(50)",
        "send(60)", "sound(0, 1)", "sound(0, 3)"};
    /** Changes all the rest. */
    private static final String[] ALL_ANEW = {"nodes(5)", "block(20)", "clock(0, -1)", "clock(1, -2)", "clock(2, -3)",
        "clock(3, -4)", "clock(4, -5)", "link(3, 1, 9)", "pause(999)", "send(60)", "sound(3, 4)"};

    public static void main(String[] args) throws ReflectiveOperationException {
        testAll(ImagesEdgesTest.class);
    }

    // ---- promise 16: image

    static void imagesAreZeroAndOne() {
        run("an IMAGE (0, 1)", RICH).stays("image(-1)", OUTSIDE).stays("image(2)", OUTSIDE).due("image(0)", 1)
            .due("image(1)", 1).stays("image(2)", OUTSIDE).stays("image(-1)", OUTSIDE);
        run("an IMAGE (0, 1)").stays("image(-1)", OUTSIDE).stays("image(2)", OUTSIDE).due("count(6)", 0);
    }

    static void imageIsNothingFar() {
        for (String k : new String[] {"min", "-32", "-31", "32", "33", "max"}) {
            run("image: OUTSIDE", RICH).stays("image(" + k + ")", OUTSIDE);
            run("restore: OUTSIDE", RICH).stays("restore(" + k + ")", OUTSIDE);
            run("image: OUTSIDE").stays("image(" + k + ")", OUTSIDE);
        }
    }

    static void imageOfANewObject() {
        for (int k = 0; k < 2; k++) {
            run("All but IMAGES is kept", "image(" + k + ")").due("count(6)", 1 << k).after(ALL_ANEW)
                .due("restore(" + k + ")", 1).sameAs(run("", "image(" + k + ")"));
        }
    }

    static void imageAgainOfTheSameChangesNothing() {
        run("is kept in an IMAGE", with(RICH, "image(0)", "image(1)")).stays("image(0)", 1).stays("image(1)", 1);
    }

    static void imageTakesThePlaceOfTheOneKeptThere() {
        for (int k = 0; k < 2; k++) {
            run("in place of what was kept there", with(RICH, "image(" + k + ")", "nodes(2)", "restore(" + k + ")"))
                .sameAs(run("", with(RICH, "image(" + k + ")")));
        }
    }

    static void imageLeavesTheOtherOne() {
        run("in place of what was kept there", with(RICH, "image(0)", "restore(1)", "image(0)"))
            .sameAs(run("", with(STIRRED, "send(10)", "sound(0, 3)", "image(0)", "image(1)")));
    }

    static void imageIsNotChangedByWhatComesAfter() {
        for (int k = 0; k < 2; k++) {
            run("as it was when it was kept", with(with(with(RICH, "image(" + k + ")"), CHANGES),
                "restore(" + k + ")")).sameAs(run("", with(RICH, "image(" + k + ")")));
        }
    }

    static void imageHoldsAllPackets() {
        run("All but IMAGES is kept", with(RICH_OF_PACKETS, "image(0)", "nodes(2)", "restore(0)"))
            .sameAs(run("", with(RICH_OF_PACKETS, "image(0)"))).due("count(2)", 200).due("send(1)", FULL);
    }

    static void imageHoldsTheLastTime() {
        run("All but IMAGES is kept", with(RICH_LATE, "image(0)", "nodes(2)", "restore(0)"))
            .sameAs(run("", with(RICH_LATE, "image(0)"))).due("count(1)", LAST_TIME).due("pause(1)", FULL);
    }

    static void imageHoldsFiveNodesAndTwo() {
        run("All but IMAGES is kept", with(ALL_ANEW, "image(0)", "nodes(2)", "send(3)", "image(1)", "restore(0)"))
            .due("count(0)", 5).due("count(13)", 0).due("count(41)", 9).due("kept(4, 0, 0)", 20)
            .after("restore(1)").due("count(0)", 2).due("count(2)", 3).due("count(41)", OUTSIDE)
            .due("kept(2, 0, 0)", GONE + UNKNOWN);
    }

    // ---- promise 17: restore

    static void restoreTakesZeroAndOne() {
        run("restore: OUTSIDE", RICH).stays("restore(-1)", OUTSIDE).stays("restore(2)", OUTSIDE)
            .due("restore(0)", 1).due("count(2)", 0).due("restore(1)", 1).due("count(2)", 10);
    }

    static void restoreOfNothingIsRefused() {
        run("STATE: nothing was kept in it", STIRRED).stays("restore(0)", STATE).stays("restore(1)", STATE);
    }

    static void restoreNeedsTheImageItself() {
        run("STATE: nothing was kept in it", with(STIRRED, "image(0)", "send(3)")).stays("restore(1)", STATE)
            .due("restore(0)", 1);
        run("STATE: nothing was kept in it", with(STIRRED, "image(1)", "send(3)")).stays("restore(0)", STATE)
            .due("restore(1)", 1);
    }

    static void restoreIsRefusedAfterAnImageThatWasRefused() {
        run("STATE: nothing was kept in it").due("image(2)", OUTSIDE).due("image(-1)", OUTSIDE)
            .stays("restore(0)", STATE).stays("restore(1)", STATE);
    }

    static void restoreIsStillRefusedAfterNodes() {
        run("STATE: nothing was kept in it", with(STIRRED, "nodes(2)")).stays("restore(0)", STATE)
            .stays("restore(1)", STATE);
    }

    static void restoreAtOnceChangesNothing() {
        run("as it was when it was kept", with(RICH, "image(0)")).stays("restore(0)", 1);
        run("as it was when it was kept", with(RICH, "image(1)")).stays("restore(1)", 1);
    }

    static void restoreTwiceIsAsOnce() {
        for (int k = 0; k < 2; k++) {
            String restore = "restore(" + k + ")";
            run("the IMAGE stays", with(RICH, restore)).stays(restore, 1);
            run("the IMAGE stays", with(with(RICH, restore, "pause(5)"), restore))
                .sameAs(run("", with(RICH, restore)));
        }
    }

    static void restoreBringsBackAllOverEverythingElse() {
        for (int k = 0; k < 2; k++) {
            String restore = "restore(" + k + ")";
            run("All but IMAGES is as it was when it was kept", with(with(RICH, ALL_ANEW), restore))
                .sameAs(run("", with(RICH, restore)));
            run("All but IMAGES is as it was when it was kept", with(with(RICH, CHANGES), restore))
                .sameAs(run("", with(RICH, restore)));
        }
    }

    static void restoreLeavesImagesAsTheyAre() {
        run("All but IMAGES", "image(0)", "pause(1)", "image(1)", "restore(0)").due("count(6)", 3).due("count(1)", 0)
            .due("restore(1)", 1).due("count(1)", 1).due("count(6)", 3);
    }

    static void restoreFreesPlaceForPacketsAndTime() {
        run("as it was when it was kept", RICH_OF_PACKETS).due("send(1)", FULL).after("restore(1)")
            .due("count(2)", 10).due("send(60)", 40);
        run("as it was when it was kept", RICH_LATE).due("pause(1)", FULL).due("sound(0, 1)", FULL)
            .after("restore(0)").due("count(1)", 7).due("pause(1)", 8);
    }

    static void restoreNumbersPacketsOnFromTheImage() {
        run("as it was when it was kept", "block(1)", "send(3)", "image(0)", "send(5)", "restore(0)")
            .due("kept(0, 3, 0)", 0).due("send(1)", 1).due("kept(0, 3, 0)", 1).due("kept(0, 3, 1)", 3)
            .due("kept(0, 4, 0)", 0).due("count(4)", 4);
    }

    static void restoreBringsBoundsThatWent() {
        run("as it was when it was kept", "sound(0, 1)", "image(0)", "clock(0, 5)").due("count(5)", 0)
            .after("restore(0)").due("count(5)", 1).due("apart(0, 1, 1)", 4).due("clock(0, 0)", 0);
    }

    // ---- promise 18: count

    static void countWhatEndsWithSix() {
        run("count: OUTSIDE", RICH).stays("count(-1)", OUTSIDE).stays("count(0)", 4).stays("count(6)", 3)
            .stays("count(7)", OUTSIDE).stays("count(8)", OUTSIDE).stays("count(9)", OUTSIDE).stays("count(10)", 5);
        for (String what : FAR) {
            run("count: OUTSIDE", RICH).stays("count(" + what + ")", OUTSIDE);
        }
    }

    static void countBelowZeroIsNoLink() {
        Run r = run("count: OUTSIDE", "nodes(5)");
        for (int what = -1; what >= -60; what--) {
            r.due("count(" + what + ")", OUTSIDE);
        }
    }

    static void countTellsOfLinksThatThereAre() {
        int[] first = {5, 0, 5, 0, 0, 0};
        for (int many = 2; many <= 5; many++) {
            Run r = run("of a LINK that there is, what is told of it", "nodes(" + many + ")");
            for (int place = 10; place < 70; place++) {
                boolean told = place / 10 < many && place % 10 < 6;
                r.due("count(" + place + ")", told ? first[place % 10] : OUTSIDE);
            }
            r.due("count(100)", OUTSIDE).due("count(110)", OUTSIDE).due("count(1010)", OUTSIDE);
        }
    }

    static void countManyFromTwoToFive() {
        run("MANY (0)").due("count(0)", 3).after("nodes(2)").due("count(0)", 2).after("nodes(5)").due("count(0)", 5);
    }

    static void countTimeFromZeroToTheLast() {
        run("TIME (1)").due("count(1)", 0).after("pause(1)").due("count(1)", 1).after("send(1)").due("count(1)", 2)
            .after("sound(0, 1)").due("count(1)", 3).after(pauses(9996)).due("count(1)", 9999);
    }

    static void countPacketsFromNoneToAll() {
        run("PACKETS that were sent (2)").due("count(2)", 0).after("link(0, 4, 2)", "send(1)").due("count(2)", 1)
            .after("send(59)", "send(60)", "send(60)").due("count(2)", 180).after("send(20)").due("count(2)", 200);
    }

    static void countBlockFromOneToTwenty() {
        run("BLOCK (3)").due("count(3)", 5).after("block(1)").due("count(3)", 1).after("block(20)")
            .due("count(3)", 20);
    }

    static void countBlocksFromNoneToAll() {
        run("BLOCKS of which PACKETS were sent (4)", "block(1)").due("count(4)", 0).after("send(1)")
            .due("count(4)", 1).after("send(59)", "send(60)", "send(60)").due("count(4)", 180).after("send(19)")
            .due("count(4)", 199).after("send(1)").due("count(4)", 200);
    }

    static void countBlocksThatCameNowhere() {
        run("BLOCKS of which PACKETS were sent (4)", "link(0, 4, 1)", "send(6)").due("count(4)", 2);
    }

    static void countPairsFromNoneToAll() {
        Run r = run("pairs of NODES that have HIGH and LOW (5)", "nodes(5)").due("count(5)", 0);
        int pairs = 0;
        for (int from = 0; from < 5; from++) {
            for (int to = from + 1; to < 5; to++) {
                pairs++;
                r.after("sound(" + from + ", " + to + ")").due("count(5)", pairs)
                    .after("sound(" + from + ", " + to + ")").due("count(5)", pairs);
            }
        }
        r.due("count(5)", 10).after("clock(2, 1)").due("count(5)", 6).after("clock(0, 1)").due("count(5)", 3)
            .after("clock(1, 1)").due("count(5)", 1).after("clock(3, 1)").due("count(5)", 0);
    }

    static void countPairsOfTwoNodes() {
        run("pairs of NODES that have HIGH and LOW (5)", "nodes(2)").due("count(5)", 0).after("sound(0, 1)")
            .due("count(5)", 1);
    }

    static void countPairsThatFollowByOthersAreNoneOfThem() {
        run("pairs of NODES that have HIGH and LOW (5)", "sound(0, 1)", "sound(1, 2)").due("tight(0, 2)", 8)
            .due("count(5)", 2);
    }

    static void countImagesIsASet() {
        run("which IMAGES are kept, a set: bits 0, 1 (6)").due("count(6)", 0).after("image(0)").due("count(6)", 1)
            .after("image(0)").due("count(6)", 1).after("image(1)").due("count(6)", 3);
        run("which IMAGES are kept, a set: bits 0, 1 (6)", "image(1)").due("count(6)", 2).after("image(1)")
            .due("count(6)", 2).after("image(0)").due("count(6)", 3);
    }

    static void countTellsTheLastOfEachLink() {
        int[] most = {20, 9, 20, 9, 9, 9};
        Run r = run("what is told of it (10, 10 times the LINK, and 0 to 5, added)", "nodes(5)");
        for (int place = 0; place < 24; place++) {
            r.after("link(" + place / 6 + ", " + place % 6 + ", " + most[place % 6] + ")");
        }
        for (int place = 0; place < 24; place++) {
            r.due("count(" + (10 + 10 * (place / 6) + place % 6) + ")", most[place % 6]);
        }
    }

    // ---- the number of calls

    static void theLastCallThatIsPromisedHolds() {
        Run r = run("An object is used for at most 512 calls");
        for (int i = 0; i < 511; i++) {
            r.after("sound(0, 1)");
        }
        r.due("count(1)", 511);
        Run all = run("An object is used for at most 512 calls");
        for (int i = 0; i < 255; i++) {
            all.after("image(" + i % 2 + ")", "restore(" + i % 2 + ")");
        }
        all.after("pause(1)").due("send(60)", 60);
    }
}
