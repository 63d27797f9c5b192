/** The boundary cases of part 1 of the terms and of promises 1 to 6, each sentence with a test of its own. */
public final class NodesAndLinksEdgesTest extends Edges {
    public static void main(String[] args) throws ReflectiveOperationException {
        testAll(NodesAndLinksEdgesTest.class);
    }

    // ---- promise 1: a new object

    static void newHasThreeNodes() {
        run("Three NODES").due("count(0)", 3).due("tight(2, 2)", 0).due("tight(3, 3)", GONE + UNKNOWN)
            .due("link(1, 0, 5)", 5).due("link(2, 0, 5)", UNKNOWN).due("nodes(3)", 3);
    }

    static void newIsAtTimeZero() {
        run("TIME 0").due("count(1)", 0).due("send(1)", 1).due("kept(0, 0, 1)", 0).due("count(1)", 1);
    }

    static void newHasNoPackets() {
        Run r = run("no PACKETS").due("count(2)", 0).due("count(4)", 0);
        for (int node = 0; node < 3; node++) {
            for (int b : new int[] {0, 1, 199}) {
                r.due("kept(" + node + ", " + b + ", 0)", 0).due("kept(" + node + ", " + b + ", 1)", 0);
            }
        }
        for (int link = 0; link < 2; link++) {
            r.due("lost(" + link + ", -1)", 0).due("lost(" + link + ", 0)", 0).due("lost(" + link + ", 199)", 0);
        }
        for (int what = 0; what < 3; what++) {
            r.due("first(0, " + what + ")", NONE).due("first(20, " + what + ")", NONE);
        }
        r.due("took(0, 1, 0, 0)", GONE + NO).due("took(1, 2, 199, 1)", GONE + NO)
            .due("truth(0, 2, 0, 0, 0)", GONE + NO).due("block(5)", 5).due("clock(0, 0)", 0);
    }

    static void newNumbersItsPacketsFromZero() {
        run("PACKETS are numbered from 0 on", "block(1)", "send(1)").due("kept(0, 0, 0)", 1).due("kept(0, 1, 0)", 0);
    }

    static void newHasNoSoundings() {
        Run r = run("no SOUNDINGS").due("count(5)", 0);
        for (int from = 0; from < 3; from++) {
            for (int to = from + 1; to < 3; to++) {
                r.due("apart(" + from + ", " + to + ", 0)", GONE + NONE)
                    .due("apart(" + from + ", " + to + ", 1)", GONE + NONE)
                    .due("tight(" + from + ", " + to + ")", GONE + NONE)
                    .due("tight(" + to + ", " + from + ")", GONE + NONE);
            }
            r.due("tight(" + from + ", " + from + ")", 0);
        }
    }

    static void newKeepsNoImage() {
        run("no IMAGE is kept").due("count(6)", 0).stays("restore(0)", STATE).stays("restore(1)", STATE);
    }

    static void newHasItsLinksAsAtFirst() {
        int[] first = {5, 0, 5, 0, 0, 0};
        Run r = run("5 at first, 0, 5, 0, 0, 0");
        for (int place = 0; place < 12; place++) {
            r.due("count(" + (10 + 10 * (place / 6) + place % 6) + ")", first[place % 6]);
        }
    }

    static void newHasItsClocksAtZero() {
        run("CLOCK 0 at first").due("clock(0, 1)", 0).due("clock(1, 1)", 0).due("clock(2, 1)", 0);
    }

    static void newHasBlockFive() {
        run("BLOCK 5 at first").due("count(3)", 5).due("block(5)", 5);
    }

    static void newObjectsAreTheirOwn() {
        run("A new object", RICH);
        run("A new object").sameAs(run("A new object", "block(5)"));
    }

    // ---- MANY, NODES and LINKS; promise 2: nodes

    static void manyIsTwoAtLeast() {
        run("MANY being 2 to 5").stays("nodes(1)", OUTSIDE).due("nodes(2)", 3).due("count(0)", 2)
            .stays("nodes(1)", OUTSIDE);
    }

    static void manyIsFiveAtMost() {
        run("MANY being 2 to 5").stays("nodes(6)", OUTSIDE).due("nodes(5)", 3).due("count(0)", 5)
            .stays("nodes(6)", OUTSIDE);
    }

    static void manyIsNoneBelow() {
        run("MANY being 2 to 5").stays("nodes(0)", OUTSIDE).stays("nodes(-1)", OUTSIDE).stays("nodes(-2)", OUTSIDE)
            .stays("nodes(-5)", OUTSIDE);
    }

    static void manyIsEachFromTwoToFive() {
        for (int was = 2; was <= 5; was++) {
            for (int v = 2; v <= 5; v++) {
                run("MANY is v: which it was", "nodes(" + was + ")").due("nodes(" + v + ")", was)
                    .due("count(0)", v).due("nodes(3)", v);
            }
        }
    }

    static void manyIsNothingFar() {
        for (String v : FAR) {
            run("nodes: OUTSIDE", RICH).stays("nodes(" + v + ")", OUTSIDE);
        }
    }

    static void nodesAreZeroToManyLessOne() {
        for (int many = 2; many <= 5; many++) {
            Run r = run("NODES are 0 to MANY less 1", "nodes(" + many + ")");
            for (int node = 0; node < many; node++) {
                r.due("clock(" + node + ", 0)", 0).due("kept(" + node + ", 0, 0)", 0)
                    .due("tight(" + node + ", " + node + ")", 0);
            }
            for (int node : new int[] {-1, many, 5}) {
                r.due("clock(" + node + ", 0)", GONE + UNKNOWN).due("kept(" + node + ", 0, 0)", GONE + UNKNOWN)
                    .due("tight(" + node + ", 0)", GONE + UNKNOWN).due("tight(0, " + node + ")", GONE + UNKNOWN);
            }
        }
    }

    static void pairsEndWithTheLastNode() {
        for (int many = 2; many <= 5; many++) {
            int last = many - 1;
            Run r = run("no such NODE", "nodes(" + many + ")", "send(1)");
            r.due("sound(0, " + last + ")", 10 * last).due("sound(0, " + many + ")", UNKNOWN)
                .due("sound(-1, " + last + ")", UNKNOWN).due("apart(0, " + last + ", 1)", 4 * last)
                .due("apart(0, " + many + ", 1)", GONE + UNKNOWN).due("apart(-1, " + last + ", 1)", GONE + UNKNOWN)
                .due("took(0, " + last + ", 0, 0)", 5 * last).due("took(0, " + many + ", 0, 0)", GONE + UNKNOWN)
                .due("took(-1, " + last + ", 0, 0)", GONE + UNKNOWN)
                .due("truth(0, " + last + ", 0, 0, 0)", 9 * last)
                .due("truth(0, " + many + ", 0, 0, 0)", GONE + UNKNOWN)
                .due("truth(-1, " + last + ", 0, 0, 0)", GONE + UNKNOWN);
        }
    }

    static void linksAreOneFewerThanNodes() {
        for (int many = 2; many <= 5; many++) {
            Run r = run("LINK l lies between NODE l and NODE l and 1, added", "nodes(" + many + ")");
            for (int link = 0; link < many - 1; link++) {
                r.due("link(" + link + ", 0, 5)", 5).due("lost(" + link + ", 0)", 0)
                    .due("count(" + (10 + 10 * link) + ")", 5);
            }
            for (int link : new int[] {-1, many - 1, many, 4}) {
                r.due("link(" + link + ", 0, 5)", UNKNOWN).due("lost(" + link + ", 0)", UNKNOWN);
            }
            r.due("count(" + 10 * many + ")", OUTSIDE);
        }
    }

    static void linkLiesBetweenItsTwoNodes() {
        for (int link = 0; link < 4; link++) {
            Run r = run("LINK l lies between NODE l and NODE l and 1, added", "nodes(5)", "link(" + link + ", 0, 9)",
                "send(1)");
            for (int node = 0; node < 5; node++) {
                r.due("kept(" + node + ", 0, 1)", 5 * node + (node > link ? 4 : 0));
            }
        }
    }

    static void nodesSetsAllAsAtFirst() {
        for (int many = 2; many <= 5; many++) {
            String nodes = "nodes(" + many + ")";
            run("all else is as at first then", with(with(STIRRED, "send(10)", "sound(0, 3)"), nodes))
                .sameAs(run("", nodes));
        }
    }

    static void nodesOfTheSameManySetsAllAsAtFirst() {
        run("all else is as at first then", with(STIRRED, "send(10)")).due("nodes(4)", 4).sameAs(run("", "nodes(4)"));
    }

    static void nodesAtTheEndOfTimeBeginsAtZero() {
        run("all else is as at first then", RICH_LATE).due("pause(1)", FULL).due("nodes(2)", 4).due("count(1)", 0)
            .due("pause(1)", 1);
    }

    static void nodesWithAllPacketsSentHasNone() {
        run("all else is as at first then", RICH_OF_PACKETS).due("send(1)", FULL).due("nodes(4)", 4)
            .due("count(2)", 0).due("send(60)", 60).due("kept(0, 0, 0)", 5);
    }

    static void nodesAfterPacketsFreesClocksAndBlock() {
        run("all else is as at first then", "send(1)").due("clock(0, 1)", GONE + STATE).due("block(4)", STATE)
            .due("nodes(3)", 3).due("clock(0, 1)", 0).due("block(4)", 5);
    }

    static void nodesLeavesImagesAndWhatTheyHold() {
        for (int k = 0; k < 2; k++) {
            run("but IMAGES", with(RICH, "nodes(2)")).due("count(6)", 3).due("restore(" + k + ")", 1)
                .sameAs(run("", with(RICH, "restore(" + k + ")")));
        }
    }

    static void nodesOfFewerForgetsTheOnesThatWent() {
        run("all else is as at first then", "nodes(5)", "clock(4, 9)", "link(3, 0, 9)", "sound(3, 4)", "nodes(2)",
            "nodes(5)").sameAs(run("", "nodes(5)"));
    }

    // ---- the numbers of a link; promise 3: link

    private static void linkNumberIsFrom(String sentence, int what, int least, int most, int first) {
        for (int link = 0; link < 4; link++) {
            String call = "link(" + link + ", " + what + ", ";
            String told = "count(" + (10 + 10 * link + what) + ")";
            run(sentence, "nodes(5)").due(told, first)
                .stays(call + (least - 1) + ")", OUTSIDE).stays(call + (most + 1) + ")", OUTSIDE)
                .due(call + least + ")", first).due(told, least)
                .stays(call + (least - 1) + ")", OUTSIDE).stays(call + (most + 1) + ")", OUTSIDE)
                .due(call + most + ")", least).due(told, most)
                .stays(call + (least - 1) + ")", OUTSIDE).stays(call + (most + 1) + ")", OUTSIDE)
                .due(call + first + ")", most).due(told, first);
        }
        for (String v : FAR) {
            run(sentence, RICH).stays("link(0, " + what + ", " + v + ")", OUTSIDE);
        }
    }

    static void baseThereIsOneToTwenty() {
        linkNumberIsFrom("0 BASE there, 1 to 20 (5 at first)", 0, 1, 20, 5);
    }

    static void waveThereIsZeroToNine() {
        linkNumberIsFrom("1 WAVE there, 0 to 9 (0)", 1, 0, 9, 0);
    }

    static void baseBackIsOneToTwenty() {
        linkNumberIsFrom("2 BASE back, 1 to 20 (5)", 2, 1, 20, 5);
    }

    static void waveBackIsZeroToNine() {
        linkNumberIsFrom("3 WAVE back, 0 to 9 (0)", 3, 0, 9, 0);
    }

    static void everyIsZeroToNine() {
        linkNumberIsFrom("4 EVERY, 0 to 9 (0)", 4, 0, 9, 0);
    }

    static void whichIsZeroToNine() {
        linkNumberIsFrom("5 WHICH, 0 to 9 (0)", 5, 0, 9, 0);
    }

    static void whichMayBeEveryOrAbove() {
        run("5 WHICH, 0 to 9 (0)", "link(0, 4, 1)").due("link(0, 5, 1)", 0).due("link(0, 5, 9)", 1)
            .due("link(0, 4, 0)", 1).due("count(15)", 9);
    }

    static void linkWhatIsZeroToFive() {
        run("What (0 to 5) of a LINK", RICH).stays("link(0, -1, 5)", OUTSIDE).due("link(0, 0, 5)", 5)
            .due("link(0, 5, 5)", 0).stays("link(0, 6, 5)", OUTSIDE);
        for (String what : FAR) {
            run("What (0 to 5) of a LINK", RICH).stays("link(0, " + what + ", 5)", OUTSIDE);
        }
    }

    static void linkTakesEachNumberBetween() {
        int[] least = {1, 0, 1, 0, 0, 0};
        int[] most = {20, 9, 20, 9, 9, 9};
        for (int what = 0; what < 6; what++) {
            Run r = run("is v: which it was", "link(1, " + what + ", " + most[what] + ")");
            int was = most[what];
            for (int v = least[what]; v <= most[what]; v++) {
                r.due("link(1, " + what + ", " + v + ")", was).due("count(" + (20 + what) + ")", v);
                was = v;
            }
        }
    }

    static void linkSetsOneNumberOfOneLink() {
        int[] first = {5, 0, 5, 0, 0, 0};
        for (int set = 0; set < 24; set++) {
            Run r = run("What of a LINK is v", "nodes(5)", "link(" + set / 6 + ", " + set % 6 + ", 7)");
            for (int place = 0; place < 24; place++) {
                r.due("count(" + (10 + 10 * (place / 6) + place % 6) + ")", place == set ? 7 : first[place % 6]);
            }
        }
    }

    static void linkOfWhatItIsChangesNothing() {
        run("is v: which it was", RICH).stays("link(2, 0, 9)", 9).stays("link(1, 5, 1)", 1);
    }

    static void linkIsTakenAfterPacketsAndLeavesThem() {
        run("of LINKS, CLOCKS as they are when they are sent", "send(5)", "link(0, 0, 20)", "link(0, 1, 9)",
            "link(1, 4, 1)").due("kept(1, 0, 1)", 5 + 6 + 7 + 8 + 9).due("kept(2, 0, 0)", 5).due("lost(1, 0)", 0);
    }

    static void linkIsTakenAfterSoundingsAndLeavesThem() {
        run("link", "sound(0, 1)", "link(0, 0, 1)", "link(0, 2, 1)").due("apart(0, 1, 0)", -4)
            .due("apart(0, 1, 1)", 4).due("count(5)", 1);
    }

    // ---- how long a link takes

    static void baseThereLeastAndMost() {
        run("takes BASE there", "link(0, 0, 1)", "send(1)").due("kept(1, 0, 1)", 1);
        run("takes BASE there", "link(0, 0, 20)", "send(1)").due("kept(1, 0, 1)", 20);
    }

    static void baseBackLeastAndMost() {
        run("back likewise by BASE back", "link(0, 2, 1)").due("sound(0, 1)", 5 + 1);
        run("back likewise by BASE back", "link(0, 2, 20)").due("sound(0, 1)", 5 + 20);
    }

    static void waveZeroTakesNoMore() {
        Run r = run("what that TIME leaves over by WAVE there and 1, added", "block(1)", "send(12)");
        for (int t = 0; t < 12; t++) {
            r.due("kept(1, " + t + ", 1)", t + 5);
        }
    }

    static void waveThereWrapsAround() {
        for (int wave = 1; wave <= 9; wave++) {
            Run r = run("what that TIME leaves over by WAVE there and 1, added", "block(1)",
                "link(0, 1, " + wave + ")", "send(21)");
            r.due("kept(1, " + wave + ", 1)", wave + 5 + wave).due("kept(1, " + (wave + 1) + ", 1)", wave + 1 + 5)
                .due("kept(1, " + (2 * wave + 1) + ", 1)", 2 * wave + 1 + 5 + wave)
                .due("kept(1, " + (2 * wave + 2) + ", 1)", 2 * wave + 2 + 5);
        }
    }

    /** It turns 5 ticks after it went, and goes by that time. */
    static void waveBackWrapsAround() {
        for (int wave = 1; wave <= 9; wave++) {
            Run r = run("back likewise by BASE and WAVE back", "link(0, 3, " + wave + ")");
            for (int t = 0; t < 21; t++) {
                r.due("sound(0, 1)", 10 + (t + 5) % (wave + 1));
            }
        }
    }

    static void waveThereIsNotBack() {
        run("there; back likewise", "link(0, 1, 9)", "pause(7)").due("sound(0, 1)", 5 + 7 + 5);
        run("there; back likewise", "link(0, 3, 9)", "pause(7)").due("sound(0, 1)", 5 + 5 + 2);
        run("there; back likewise", "link(0, 3, 9)", "pause(7)", "send(1)").due("kept(1, 0, 1)", 7 + 5);
    }

    static void waveGoesByTheTimeAtTheLink() {
        run("Who goes over a LINK there from a TIME on", "link(1, 1, 9)", "send(1)").due("kept(1, 0, 1)", 5)
            .due("kept(2, 0, 1)", 5 + 5 + 5);
        run("Who goes over a LINK there from a TIME on", "link(1, 1, 9)", "pause(5)", "send(1)")
            .due("kept(1, 0, 1)", 10).due("kept(2, 0, 1)", 10 + 5);
    }

    static void waveGoesByTimeAndNotByTheClock() {
        run("from a TIME on", "clock(0, 9)", "clock(1, 8)", "link(0, 1, 9)", "link(1, 1, 9)", "send(1)")
            .due("kept(0, 0, 1)", 9).due("kept(1, 0, 1)", 5 + 8).due("kept(2, 0, 1)", 5 + 5 + 5);
    }

    static void waveAtTheLastTimes() {
        run("what that TIME leaves over", with(pauses(9998), "link(0, 1, 9)", "link(1, 1, 9)", "send(1)"))
            .due("kept(1, 0, 1)", 9998 + 5 + 8).due("kept(2, 0, 1)", 10011 + 5 + 1);
    }

    // ---- promise 4: clock

    static void clockIsNinetyNineAtMost() {
        run("CLOCK, -99 to 99", STIRRED).stays("clock(2, 100)", GONE + OUTSIDE).due("clock(2, 99)", 0)
            .due("clock(2, 99)", 99).stays("clock(2, 100)", GONE + OUTSIDE);
    }

    static void clockIsMinusNinetyNineAtLeast() {
        run("CLOCK, -99 to 99", STIRRED).stays("clock(2, -100)", GONE + OUTSIDE).due("clock(2, -99)", 0)
            .due("clock(2, -99)", -99).stays("clock(2, -100)", GONE + OUTSIDE);
    }

    static void clockIsNothingFar() {
        for (String v : FAR) {
            run("clock: OUTSIDE", STIRRED).stays("clock(2, " + v + ")", GONE + OUTSIDE);
        }
    }

    static void clockIsEachBetween() {
        Run r = run("CLOCK of a NODE is v: which it was", "clock(1, 99)");
        int was = 99;
        for (int v = -99; v <= 99; v++) {
            r.due("clock(1, " + v + ")", was);
            was = v;
        }
    }

    /** What it was can be -1 to -6 and is no refusal then: those have GONE added. */
    static void clockBelowZeroIsNoRefusal() {
        Run r = run("GONE and these", "clock(0, -1)");
        for (int v = -2; v >= -7; v--) {
            r.due("clock(0, " + v + ")", v + 1);
        }
    }

    static void clockOfEachNodeIsItsOwn() {
        Run r = run("Each NODE has a CLOCK", "nodes(5)");
        for (int node = 0; node < 5; node++) {
            r.due("clock(" + node + ", " + (node - 2) + ")", 0);
        }
        for (int node = 0; node < 5; node++) {
            r.due("clock(" + node + ", 50)", node - 2);
        }
    }

    static void clockShowsTimeAndItselfAdded() {
        run("it shows TIME and CLOCK, added", "clock(0, -99)", "clock(1, 99)", "block(1)", "send(1)")
            .due("kept(0, 0, 1)", -99).due("kept(1, 0, 1)", 5 + 99).due("kept(2, 0, 1)", 10);
        run("it shows TIME and CLOCK, added", "clock(0, -99)", "block(1)", "pause(98)", "send(3)")
            .due("kept(0, 0, 1)", -1).due("kept(0, 1, 1)", 0).due("kept(0, 2, 1)", 1);
    }

    static void clockTakesAwayAllBoundsOfItsNode() {
        for (int node = 0; node < 5; node++) {
            Run r = run("all HIGHS and LOWS of it with other NODES go", "nodes(5)");
            for (int from = 0; from < 5; from++) {
                for (int to = from + 1; to < 5; to++) {
                    r.after("sound(" + from + ", " + to + ")");
                }
            }
            r.due("count(5)", 10).due("clock(" + node + ", 1)", 0).due("count(5)", 6);
            for (int from = 0; from < 5; from++) {
                for (int to = from + 1; to < 5; to++) {
                    boolean went = from == node || to == node;
                    r.due("apart(" + from + ", " + to + ", 0)", went ? GONE + NONE : -4 * (to - from));
                    r.due("apart(" + from + ", " + to + ", 1)", went ? GONE + NONE : 4 * (to - from));
                }
            }
        }
    }

    static void clockThatStaysTakesThemAwayToo() {
        run("CLOCK of a NODE is v, and all HIGHS and LOWS of it go", "sound(0, 1)", "sound(1, 2)", "sound(0, 2)")
            .due("clock(1, 0)", 0).due("count(5)", 1).due("apart(0, 1, 0)", GONE + NONE).due("apart(0, 2, 1)", 8);
    }

    static void clockOfANodeWithoutBoundsTakesNoneAway() {
        run("of it with other NODES", "sound(0, 1)").due("clock(2, 5)", 0).due("count(5)", 1)
            .due("apart(0, 1, 1)", 4);
    }

    static void clockRefusedTakesNoBoundsAway() {
        run("What is refused changes nothing", STIRRED).stays("clock(0, 100)", GONE + OUTSIDE).due("count(5)", 1);
        run("What is refused changes nothing", RICH).stays("clock(0, 1)", GONE + STATE).due("count(5)", 3);
    }

    static void clockIsRefusedFromTheFirstPacketOn() {
        run("STATE: PACKETS were sent", STIRRED).due("clock(0, 10)", 11).after("send(1)")
            .stays("clock(0, 11)", GONE + STATE).stays("clock(0, 10)", GONE + STATE);
    }

    static void clockIsRefusedIfAllPacketsWereDropped() {
        run("STATE: PACKETS were sent", "link(0, 4, 1)").due("send(1)", 0).stays("clock(2, 1)", GONE + STATE);
    }

    static void clockIsTakenAfterASendThatWasRefused() {
        run("STATE: PACKETS were sent").due("send(0)", OUTSIDE).due("send(61)", OUTSIDE).due("clock(0, 1)", 0);
        run("STATE: PACKETS were sent", pauses(LAST_TIME)).due("send(1)", FULL).due("clock(0, 1)", 0);
    }

    static void clockIsTakenAfterSoundingsAndPauses() {
        run("STATE: PACKETS were sent", "sound(0, 1)", "pause(999)").due("clock(0, 1)", 0);
    }

    static void clockGoesByThePacketsThatAreRestored() {
        run("STATE: PACKETS were sent", "image(0)", "send(1)", "image(1)", "restore(0)").due("clock(0, 1)", 0)
            .after("restore(1)").due("clock(0, 1)", GONE + STATE);
    }

    // ---- promise 5: block

    static void blockIsOneAtLeast() {
        run("BLOCK is 1 to 20", STIRRED).stays("block(0)", OUTSIDE).due("block(1)", 3).due("count(3)", 1)
            .stays("block(0)", OUTSIDE).stays("block(-1)", OUTSIDE);
    }

    static void blockIsTwentyAtMost() {
        run("BLOCK is 1 to 20", STIRRED).stays("block(21)", OUTSIDE).due("block(20)", 3).due("count(3)", 20)
            .stays("block(21)", OUTSIDE);
    }

    static void blockIsNothingFar() {
        for (String v : FAR) {
            run("block: OUTSIDE", STIRRED).stays("block(" + v + ")", OUTSIDE);
        }
    }

    static void blockIsEachBetween() {
        Run r = run("BLOCK is v: which it was", "block(20)");
        int was = 20;
        for (int v = 1; v <= 20; v++) {
            r.due("block(" + v + ")", was).due("count(3)", v);
            was = v;
        }
    }

    static void blockIsRefusedFromTheFirstPacketOn() {
        run("STATE: PACKETS were sent", STIRRED).due("block(4)", 3).after("send(1)").stays("block(4)", STATE)
            .stays("block(1)", STATE).stays("block(20)", STATE).due("count(3)", 4);
    }

    static void blockIsRefusedIfAllPacketsWereDropped() {
        run("STATE: PACKETS were sent", "link(0, 4, 1)").due("send(1)", 0).stays("block(4)", STATE);
    }

    static void blockIsTakenAfterASendThatWasRefused() {
        run("STATE: PACKETS were sent").due("send(0)", OUTSIDE).due("send(61)", OUTSIDE).due("block(4)", 5);
        run("STATE: PACKETS were sent", pauses(LAST_TIME)).due("send(1)", FULL).due("block(4)", 5);
    }

    static void blockIsTakenAfterSoundingsAndPauses() {
        run("STATE: PACKETS were sent", "sound(0, 1)", "pause(999)").due("block(4)", 5);
    }

    static void blockGoesByThePacketsThatAreRestored() {
        run("STATE: PACKETS were sent", "image(0)", "send(1)", "image(1)", "restore(0)").due("block(4)", 5)
            .after("restore(1)").due("block(4)", STATE).due("count(3)", 5);
    }

    // ---- promise 6: pause

    static void pauseIsOneAtLeast() {
        run("n ticks go by, 1 to 999", RICH).stays("pause(0)", OUTSIDE).stays("pause(-1)", OUTSIDE)
            .due("pause(1)", RICH_TIME + 1).due("count(1)", RICH_TIME + 1);
    }

    static void pauseIsNineHundredNinetyNineAtMost() {
        run("n ticks go by, 1 to 999", RICH).stays("pause(1000)", OUTSIDE).due("pause(999)", RICH_TIME + 999)
            .due("count(1)", RICH_TIME + 999);
    }

    static void pauseIsNothingFar() {
        for (String n : FAR) {
            run("pause: OUTSIDE", RICH).stays("pause(" + n + ")", OUTSIDE);
        }
    }

    static void pauseComesToTheLastTimeAndNotBeyond() {
        run("FULL: it would be above 9999", pauses(9000)).stays("pause(1000)", OUTSIDE).due("pause(999)", 9999)
            .stays("pause(1)", FULL).stays("pause(999)", FULL).due("count(1)", 9999);
        run("FULL: it would be above 9999", pauses(9001)).stays("pause(999)", FULL).due("pause(998)", 9999);
        run("FULL: it would be above 9999", pauses(9998)).stays("pause(2)", FULL).due("pause(1)", 9999);
    }

    static void pauseSendsNoPackets() {
        run("without PACKETS", "pause(999)").due("count(2)", 0).due("count(4)", 0).due("kept(0, 0, 0)", 0)
            .due("block(4)", 5).due("clock(0, 1)", 0);
    }

    static void pauseOfThreeIsOneOfOneAndOneOfTwo() {
        run("n ticks go by", with(STIRRED, "pause(3)")).sameAs(run("", with(STIRRED, "pause(1)", "pause(2)")));
    }
}
