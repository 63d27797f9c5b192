/** The boundary cases of part 2 of the terms and of promises 7 to 11, each sentence with a test of its own. */
public final class PacketsEdgesTest extends Edges {
    public static void main(String[] args) throws ReflectiveOperationException {
        testAll(PacketsEdgesTest.class);
    }

    // ---- promise 7: send

    static void sendIsOneAtLeast() {
        run("n PACKETS, 1 to 60", RICH).stays("send(0)", OUTSIDE).stays("send(-1)", OUTSIDE);
        run("n PACKETS, 1 to 60").due("send(1)", 1).due("count(2)", 1).due("count(1)", 1).due("kept(0, 0, 0)", 1);
    }

    static void sendIsSixtyAtMost() {
        run("n PACKETS, 1 to 60", RICH).stays("send(61)", OUTSIDE);
        run("n PACKETS, 1 to 60").due("send(60)", 60).due("count(2)", 60).due("count(1)", 60)
            .due("kept(2, 11, 0)", 5).due("kept(2, 12, 0)", 0);
    }

    static void sendIsNothingFar() {
        for (String n : FAR) {
            run("send: OUTSIDE", RICH).stays("send(" + n + ")", OUTSIDE);
        }
    }

    static void sendTakesEachBetween() {
        for (int n = 1; n <= 60; n++) {
            run("n PACKETS, 1 to 60; TIME is n more then").due("send(" + n + ")", n).due("count(2)", n)
                .due("count(1)", n).due("count(4)", (n + 4) / 5);
        }
    }

    static void sendEndsWithTwoHundred() {
        run("FULL: there would be more than 200", "send(60)", "send(60)", "send(60)").stays("send(21)", FULL)
            .stays("send(60)", FULL).due("send(20)", 20).due("count(2)", 200).stays("send(1)", FULL)
            .stays("send(60)", FULL);
    }

    static void sendTakesTheLastPacketAlone() {
        run("FULL: there would be more than 200", "send(60)", "send(60)", "send(60)", "send(19)")
            .stays("send(2)", FULL).due("send(1)", 1).due("count(2)", 200).stays("send(1)", FULL);
    }

    static void sendCountsDroppedPacketsToo() {
        run("there would be more than 200", "link(0, 4, 1)").due("send(60)", 0).due("send(60)", 0)
            .due("send(60)", 0).due("send(21)", FULL).due("send(20)", 0).due("count(2)", 200).stays("send(1)", FULL);
    }

    static void sendComesToTheLastTimeAndNotBeyond() {
        run("FULL: TIME above 9999", pauses(9939)).due("send(60)", 60).due("count(1)", 9999).stays("send(1)", FULL);
        run("FULL: TIME above 9999", pauses(9940)).stays("send(60)", FULL).due("send(59)", 59)
            .due("count(1)", 9999);
        run("FULL: TIME above 9999", pauses(9998)).stays("send(2)", FULL).due("send(1)", 1).due("count(1)", 9999);
        run("FULL: TIME above 9999", pauses(9999)).stays("send(1)", FULL).stays("send(60)", FULL);
    }

    static void sendOfTheLastTickIsUnderWayBeyondIt() {
        run("one at TIME", with(pauses(9998), "send(1)")).due("kept(0, 0, 1)", 9998).due("kept(1, 0, 1)", 10003)
            .due("kept(2, 0, 1)", 10008).due("took(0, 2, 0, 0)", 10);
    }

    static void sendGoesOneATick() {
        Run r = run("one at TIME, one a tick later, and so on", "block(1)", "pause(7)", "send(3)", "pause(2)",
            "send(2)");
        int[] shown = {7, 8, 9, 12, 13};
        for (int b = 0; b < 5; b++) {
            r.due("kept(0, " + b + ", 1)", shown[b]).due("kept(1, " + b + ", 1)", shown[b] + 5);
        }
    }

    static void sendOfThreeIsOneOfOneAndOneOfTwo() {
        run("numbered from 0 on as they are sent", with(STIRRED, "send(3)"))
            .sameAs(run("", with(STIRRED, "send(1)", "send(2)")));
    }

    static void sendAnswersHowManyCameToTheLastNode() {
        run("how many came to the last NODE", "nodes(2)", "link(0, 4, 1)").due("send(1)", 0);
        run("how many came to the last NODE", "nodes(5)", "link(3, 4, 1)").due("send(60)", 0).due("lost(3, -1)", 60);
        run("how many came to the last NODE", "nodes(5)", "link(3, 4, 2)").due("send(1)", 0).due("send(1)", 1)
            .due("send(59)", 29);
    }

    static void sendAddsNoSoundings() {
        run("send", "send(60)").due("count(5)", 0).due("apart(0, 1, 0)", GONE + NONE).due("tight(0, 1)", GONE + NONE);
    }

    // ---- what a link drops

    static void everyZeroDropsNone() {
        for (int which = 0; which <= 9; which++) {
            run("A LINK, EVERY being above 0, drops it", "link(0, 5, " + which + ")").due("send(60)", 60)
                .due("lost(0, -1)", 0);
        }
    }

    static void everyOneDropsAll() {
        run("if its number left over by EVERY is WHICH", "link(0, 4, 1)").due("send(60)", 0).due("lost(0, -1)", 60);
    }

    static void whichNotBelowEveryDropsNone() {
        for (int every = 1; every <= 9; every++) {
            run("if its number left over by EVERY is WHICH", "link(0, 4, " + every + ")", "link(0, 5, " + every + ")")
                .due("send(60)", 60);
            run("if its number left over by EVERY is WHICH", "link(0, 4, " + every + ")", "link(0, 5, 9)")
                .due("send(60)", 60);
        }
    }

    static void everyNineDropsTheNinthOfNine() {
        run("if its number left over by EVERY is WHICH", "link(0, 4, 9)", "link(0, 5, 8)").due("send(8)", 8)
            .due("send(1)", 0).due("send(8)", 8).due("send(1)", 0).due("send(1)", 1);
    }

    static void everyAndWhichOfEachNumber() {
        for (int every = 0; every <= 9; every++) {
            for (int which = 0; which <= 9; which++) {
                Run r = run("if its number left over by EVERY is WHICH", "block(1)", "link(1, 4, " + every + ")",
                    "link(1, 5, " + which + ")", "send(20)");
                for (int number = 0; number < 20; number++) {
                    boolean drops = every > 0 && number % every == which;
                    r.due("kept(2, " + number + ", 0)", drops ? 0 : 1).due("kept(1, " + number + ", 0)", 1);
                }
            }
        }
    }

    static void everyGoesByTheNumberUpToTheLast() {
        run("if its number left over by EVERY is WHICH", "block(1)", "send(60)", "send(60)", "send(60)",
            "link(0, 4, 9)", "link(0, 5, 1)").due("send(20)", 17).due("kept(1, 181, 0)", 0).due("kept(1, 190, 0)", 0)
            .due("kept(1, 198, 0)", 1).due("kept(1, 199, 0)", 0).due("kept(0, 199, 0)", 1);
    }

    static void droppedComesToNoMoreNode() {
        for (int link = 0; link < 4; link++) {
            Run r = run("then it comes to no more NODE", "nodes(5)", "link(" + link + ", 4, 1)").due("send(1)", 0);
            for (int node = 0; node < 5; node++) {
                r.due("kept(" + node + ", 0, 0)", node <= link ? 1 : 0)
                    .due("kept(" + node + ", 0, 1)", node <= link ? 5 * node : 0);
            }
        }
    }

    static void droppedIsDroppedOnce() {
        run("then it comes to no more NODE", "nodes(5)", "link(0, 4, 2)", "link(1, 4, 2)", "link(3, 4, 2)")
            .due("send(10)", 5).due("lost(0, -1)", 5).due("lost(1, -1)", 0).due("lost(2, -1)", 0)
            .due("lost(3, -1)", 0);
    }

    // ---- blocks

    static void blockOfOneHasEachPacketAlone() {
        Run r = run("its number by BLOCK, cut", with(new String[] {"block(1)"}, TWO_HUNDRED)).due("count(4)", 200);
        for (int b : new int[] {0, 1, 198, 199}) {
            r.due("kept(0, " + b + ", 0)", 1).due("kept(0, " + b + ", 1)", b);
        }
    }

    static void blockOfTwentyHasTen() {
        Run r = run("its number by BLOCK, cut", with(new String[] {"block(20)"}, TWO_HUNDRED)).due("count(4)", 10);
        r.due("kept(2, 0, 0)", 20).due("kept(2, 9, 0)", 20).due("kept(2, 10, 0)", 0);
    }

    static void blockOfFiveHasForty() {
        run("its number by BLOCK, cut", TWO_HUNDRED).due("count(4)", 40).due("kept(0, 39, 0)", 5)
            .due("kept(0, 39, 1)", 195 + 196 + 197 + 198 + 199).due("kept(0, 40, 0)", 0);
    }

    static void blockThatDoesNotGoUpLeavesASmallOne() {
        run("its number by BLOCK, cut", with(new String[] {"block(7)"}, TWO_HUNDRED)).due("count(4)", 29)
            .due("kept(0, 27, 0)", 7).due("kept(0, 28, 0)", 4).due("kept(0, 29, 0)", 0);
    }

    static void blockEndsWithItsLastPacket() {
        for (int size = 1; size <= 20; size++) {
            run("its number by BLOCK, cut", "block(" + size + ")", "send(" + size + ")")
                .due("kept(0, 0, 0)", size).due("kept(0, 1, 0)", 0).due("count(4)", 1)
                .due("send(1)", 1).due("kept(0, 0, 0)", size).due("kept(0, 1, 0)", 1).due("count(4)", 2);
        }
    }

    static void blockIsThatOfTheSending() {
        run("as this is when it is sent", "send(5)", "image(0)", "nodes(3)", "block(1)", "send(2)")
            .due("kept(0, 1, 0)", 1).after("restore(0)").due("kept(0, 0, 0)", 5).due("send(1)", 1)
            .due("kept(0, 1, 0)", 1).due("kept(0, 5, 0)", 0);
    }

    // ---- promise 8: kept

    static void keptTakesBlocksZeroToTheLast() {
        run("b is not 0 to 199", RICH).stays("kept(0, -1, 0)", GONE + OUTSIDE).stays("kept(0, 0, 0)", 3)
            .stays("kept(0, 199, 0)", 0).stays("kept(0, 200, 0)", GONE + OUTSIDE);
        run("b is not 0 to 199", RICH).stays("kept(0, -1, 1)", GONE + OUTSIDE)
            .stays("kept(0, 200, 1)", GONE + OUTSIDE);
        for (String b : FAR) {
            run("b is not 0 to 199", RICH).stays("kept(0, " + b + ", 0)", GONE + OUTSIDE);
        }
    }

    static void keptTellsTheLastBlockAtEachNode() {
        Run r = run("Of a NODE and a BLOCK b", with(new String[] {"nodes(5)", "block(1)"}, TWO_HUNDRED));
        for (int node = 0; node < 5; node++) {
            r.due("kept(" + node + ", 199, 0)", 1).due("kept(" + node + ", 199, 1)", 199 + 5 * node)
                .due("kept(" + node + ", 0, 0)", 1).due("kept(" + node + ", 0, 1)", 5 * node);
        }
    }

    static void keptWhatIsZeroOrOne() {
        run("COUNT (what = 0), SUM (1)", "pause(3)", "send(2)").stays("kept(0, 0, -1)", GONE + OUTSIDE)
            .stays("kept(0, 0, 0)", 2).stays("kept(0, 0, 1)", 3 + 4).stays("kept(0, 0, 2)", GONE + OUTSIDE);
        for (String what : FAR) {
            run("COUNT (what = 0), SUM (1)", RICH).stays("kept(0, 0, " + what + ")", GONE + OUTSIDE);
        }
    }

    static void keptIsZeroOfABlockThatHasNone() {
        run("0, if it has none; 0 likewise", "clock(0, 50)", "pause(9)", "send(5)").due("kept(0, 1, 0)", 0)
            .due("kept(0, 1, 1)", 0).due("kept(2, 199, 0)", 0).due("kept(2, 199, 1)", 0);
    }

    static void keptIsZeroOfANodeToWhichNoneCame() {
        run("0, if it has none; 0 likewise", "clock(1, 50)", "link(0, 4, 1)", "send(5)").due("kept(0, 0, 0)", 5)
            .due("kept(1, 0, 0)", 0).due("kept(1, 0, 1)", 0).due("kept(2, 0, 0)", 0).due("kept(2, 0, 1)", 0);
    }

    static void keptSumMayBeZeroAndBelow() {
        run("the SUM of what its clock showed", "clock(0, -2)", "clock(1, -8)", "send(5)").due("kept(0, 0, 0)", 5)
            .due("kept(0, 0, 1)", 0).due("kept(1, 0, 1)", 35 - 40).due("kept(1, 0, 0)", 5);
    }

    /** SUM can be -1 to -6, and is no refusal then. */
    static void keptSumBelowZeroIsNoRefusal() {
        for (int v = -1; v >= -6; v--) {
            run("GONE and these", "clock(0, " + v + ")", "send(1)").due("kept(0, 0, 1)", v);
        }
    }

    static void keptSumLeastAndMost() {
        run("SUM", "block(20)", "clock(0, -99)", "send(20)").due("kept(0, 0, 1)", 190 - 20 * 99);
        run("SUM", with(pauses(9979), "block(20)", "clock(0, 99)", "send(20)"))
            .due("kept(0, 0, 1)", 199770 + 20 * 99);
    }

    static void keptGoesByTheLinksOfTheSending() {
        run("of LINKS, CLOCKS as they are when they are sent", "block(1)", "send(1)", "link(0, 0, 20)", "send(1)")
            .due("kept(1, 0, 1)", 5).due("kept(1, 1, 1)", 1 + 20);
    }

    // ---- promise 9: lost

    static void lostTakesAllBlocksAndEach() {
        run("b is not -1 to 199", RICH).stays("lost(1, -2)", OUTSIDE).stays("lost(1, -1)", 4).stays("lost(1, 0)", 1)
            .stays("lost(1, 199)", 0).stays("lost(1, 200)", OUTSIDE);
        for (String b : FAR) {
            run("b is not -1 to 199", RICH).stays("lost(1, " + b + ")", OUTSIDE);
        }
    }

    static void lostIsNoneWithoutPackets() {
        run("LOST on a LINK of BLOCK b; of all BLOCKS", "link(0, 4, 1)").due("lost(0, -1)", 0).due("lost(0, 0)", 0)
            .due("lost(0, 199)", 0);
    }

    static void lostIsNoneIfNothingDrops() {
        run("LOST on a LINK of BLOCK b; of all BLOCKS", TWO_HUNDRED).due("lost(0, -1)", 0).due("lost(1, -1)", 0)
            .due("lost(1, 39)", 0);
    }

    static void lostIsAllOfThem() {
        run("of all BLOCKS (b = -1)", with(new String[] {"nodes(2)", "link(0, 4, 1)", "block(20)"}, TWO_HUNDRED))
            .due("lost(0, -1)", 200).due("lost(0, 0)", 20).due("lost(0, 9)", 20).due("lost(0, 10)", 0);
    }

    static void lostTellsTheLastBlock() {
        run("LOST on a LINK of BLOCK b", "block(1)", "send(60)", "send(60)", "send(60)", "send(19)", "link(1, 4, 1)",
            "send(1)").due("lost(1, 198)", 0).due("lost(1, 199)", 1).due("lost(0, 199)", 0).due("lost(1, -1)", 1);
    }

    static void lostIsThatOfTheLinkAlone() {
        Run r = run("COUNT of the NODE ahead of it less COUNT of the one behind it", "nodes(5)", "block(20)",
            "link(0, 4, 9)", "link(1, 4, 5)", "link(1, 5, 1)", "link(2, 4, 4)", "link(2, 5, 3)", "link(3, 4, 7)",
            "link(3, 5, 5)", "send(20)");
        // Numbers 0 9 18, 1 6 11 16, 3 7 15 19, 5 12.
        r.due("lost(0, 0)", 3).due("lost(1, 0)", 4).due("lost(2, 0)", 4).due("lost(3, 0)", 2);
    }

    // ---- promise 10: took

    static void tookNeedsALaterNode() {
        Run r = run("the second one is not later", with(new String[] {"nodes(5)"}, "send(5)"));
        for (int from = 0; from < 5; from++) {
            for (int to = 0; to < 5; to++) {
                r.due("took(" + from + ", " + to + ", 0, 0)", to > from ? 5 * (to - from) : GONE + OUTSIDE)
                    .due("took(" + from + ", " + to + ", 0, 1)", to > from ? 1 : GONE + OUTSIDE);
            }
        }
    }

    static void tookTakesBlocksZeroToTheLast() {
        run("b is not 0 to 199", RICH).stays("took(0, 1, -1, 0)", GONE + OUTSIDE)
            .stays("took(0, 1, 199, 0)", GONE + NO).stays("took(0, 1, 200, 0)", GONE + OUTSIDE);
        run("b is not 0 to 199", with(new String[] {"block(1)"}, TWO_HUNDRED)).due("took(0, 1, 0, 0)", 5)
            .due("took(0, 1, 199, 0)", 5).due("took(0, 1, 199, 1)", 1).due("took(0, 1, 200, 0)", GONE + OUTSIDE)
            .due("took(0, 1, -1, 0)", GONE + OUTSIDE);
        for (String b : FAR) {
            run("b is not 0 to 199", RICH).stays("took(0, 1, " + b + ", 0)", GONE + OUTSIDE);
        }
    }

    static void tookPartIsZeroOrOne() {
        run("part: 0 the upper number, 1 the lower one", "send(5)").stays("took(0, 1, 0, -1)", GONE + OUTSIDE)
            .stays("took(0, 1, 0, 0)", 5).stays("took(0, 1, 0, 1)", 1).stays("took(0, 1, 0, 2)", GONE + OUTSIDE);
        for (String part : FAR) {
            run("part", "send(5)").stays("took(0, 1, 0, " + part + ")", GONE + OUTSIDE);
        }
    }

    static void tookIsNoneIfOneIsMissing() {
        run("if both COUNTS are the same", "link(0, 4, 9)", "link(0, 5, 4)", "send(4)").due("took(0, 1, 0, 0)", 5)
            .due("send(1)", 0).stays("took(0, 1, 0, 0)", GONE + NO).stays("took(0, 1, 0, 1)", GONE + NO)
            .stays("took(0, 2, 0, 0)", GONE + NO).due("took(1, 2, 0, 0)", 5);
    }

    static void tookIsNoneIfNoneCame() {
        run("and above 0", "link(0, 4, 1)", "send(5)").stays("took(1, 2, 0, 0)", GONE + NO)
            .stays("took(1, 2, 0, 1)", GONE + NO);
    }

    static void tookIsNoneOfABlockNotSent() {
        run("and above 0", "send(5)").due("took(0, 1, 0, 0)", 5).stays("took(0, 1, 1, 0)", GONE + NO)
            .stays("took(0, 1, 1, 1)", GONE + NO).due("send(1)", 1).due("took(0, 1, 1, 0)", 5);
    }

    static void tookIsThereAgainBehindTheLoss() {
        run("if both COUNTS are the same", "nodes(5)", "link(1, 4, 2)", "send(5)").due("took(0, 1, 0, 0)", 5)
            .due("took(0, 2, 0, 0)", GONE + NO).due("took(1, 4, 0, 0)", GONE + NO).due("took(2, 3, 0, 0)", 5)
            .due("took(2, 4, 0, 0)", 10);
    }

    static void tookOfOnePacket() {
        run("SUM of the later one less that of the other one, by COUNT", "block(1)", "link(0, 1, 9)", "pause(7)",
            "send(1)").due("took(0, 1, 0, 0)", 12).due("took(0, 1, 0, 1)", 1);
    }

    static void tookOfTwentyPackets() {
        // At times 0 to 19 a wave of 8 takes 36, 36, 0 and 1 more than 5 each.
        run("in lowest terms", "block(20)", "link(0, 1, 8)", "send(20)").due("took(0, 1, 0, 0)", 173)
            .due("took(0, 1, 0, 1)", 20);
        run("in lowest terms", "block(20)", "link(0, 1, 9)", "send(20)").due("took(0, 1, 0, 0)", 19)
            .due("took(0, 1, 0, 1)", 2);
        run("in lowest terms", "block(20)", "send(20)").due("took(0, 1, 0, 0)", 5).due("took(0, 1, 0, 1)", 1);
    }

    static void tookOfEachCountIsInLowestTerms() {
        int more = 0;
        for (int n = 1; n <= 20; n++) {
            more += (n - 1) % 7;
            int divisor = java.math.BigInteger.valueOf(more).gcd(java.math.BigInteger.valueOf(n)).intValue();
            run("in lowest terms", "block(20)", "clock(1, -5)", "link(0, 1, 6)", "send(" + n + ")")
                .due("took(0, 1, 0, 0)", more / divisor).due("took(0, 1, 0, 1)", n / divisor);
        }
    }

    static void tookBelowZeroHasTheSignAbove() {
        run("the lower one, above 0", "block(20)", "clock(1, -9)", "link(0, 1, 8)", "send(20)")
            .due("took(0, 1, 0, 0)", 173 - 180).due("took(0, 1, 0, 1)", 20);
        run("the lower one, above 0", "block(4)", "clock(1, -7)", "link(0, 1, 3)", "send(4)")
            .due("took(0, 1, 0, 0)", -1).due("took(0, 1, 0, 1)", 2);
    }

    static void tookOfZeroIsZeroByOne() {
        run("of 0: 0 by 1", "block(20)", "clock(1, -5)", "send(20)").due("took(0, 1, 0, 0)", 0)
            .due("took(0, 1, 0, 1)", 1);
    }

    /** It can be -1 to -6, and is no refusal then. */
    static void tookBelowZeroIsNoRefusal() {
        for (int v = -1; v >= -6; v--) {
            run("GONE and these", "clock(1, " + (v - 5) + ")", "send(5)").due("took(0, 1, 0, 0)", v)
                .due("took(0, 1, 0, 1)", 1);
        }
    }

    static void tookLeastAndMost() {
        run("TOOK", "nodes(2)", "clock(0, 99)", "clock(1, -99)", "link(0, 0, 1)", "send(5)")
            .due("took(0, 1, 0, 0)", 1 - 198).due("took(0, 1, 0, 1)", 1);
        run("TOOK", "nodes(2)", "clock(0, -99)", "clock(1, 99)", "link(0, 0, 20)", "link(0, 1, 9)", "block(1)",
            "pause(9)", "send(1)").due("took(0, 1, 0, 0)", 29 + 198).due("took(0, 1, 0, 1)", 1);
    }

    // ---- promise 11: first

    static void firstTakesLimitsZeroToTwenty() {
        run("limit, 0 to 20", RICH).stays("first(-1, 0)", OUTSIDE).stays("first(0, 0)", 0).stays("first(20, 0)", NONE)
            .stays("first(21, 0)", OUTSIDE);
        for (String limit : FAR) {
            run("limit, 0 to 20", RICH).stays("first(" + limit + ", 0)", OUTSIDE);
        }
    }

    static void firstWhatIsZeroToTwo() {
        run("number (what = 0), LINK (1), how many (2)", RICH).stays("first(0, -1)", OUTSIDE).stays("first(0, 0)", 0)
            .stays("first(0, 1)", 1).stays("first(0, 2)", 1).stays("first(0, 3)", OUTSIDE);
        for (String what : FAR) {
            run("number (what = 0), LINK (1), how many (2)", RICH).stays("first(0, " + what + ")", OUTSIDE);
        }
    }

    static void firstIsAboveTheLimitAndNotAtIt() {
        for (int lost = 1; lost <= 20; lost++) {
            run("is above limit", "nodes(2)", "block(20)", "link(0, 4, 1)", "send(" + lost + ")")
                .due("first(" + (lost - 1) + ", 0)", 0).due("first(" + (lost - 1) + ", 1)", 0)
                .due("first(" + (lost - 1) + ", 2)", lost).due("first(" + lost + ", 0)", NONE)
                .due("first(" + lost + ", 1)", NONE).due("first(" + lost + ", 2)", NONE);
        }
    }

    static void firstIsNoneIfNothingIsLost() {
        Run r = run("NONE: there is none", TWO_HUNDRED);
        for (int what = 0; what < 3; what++) {
            r.due("first(0, " + what + ")", NONE).due("first(20, " + what + ")", NONE);
        }
    }

    static void firstIsTheLastBlockOfAll() {
        run("Of all BLOCKS, by rising numbers", "nodes(5)", "block(1)", "send(60)", "send(60)", "send(60)",
            "send(19)", "link(3, 4, 1)").due("first(0, 0)", NONE).due("send(1)", 0).due("first(0, 0)", 199)
            .due("first(0, 1)", 3).due("first(0, 2)", 1).due("first(1, 0)", NONE);
    }

    static void firstIsTheFirstOfSeveralBlocks() {
        run("Of all BLOCKS, by rising numbers, the first", "link(0, 4, 1)", "send(1)", "link(0, 4, 0)", "send(4)",
            "link(1, 4, 1)", "send(5)").due("first(0, 0)", 0).due("first(0, 1)", 0).due("first(0, 2)", 1)
            .due("first(1, 0)", 1).due("first(1, 1)", 1).due("first(1, 2)", 5).due("first(4, 0)", 1)
            .due("first(5, 0)", NONE);
    }

    static void firstAddsAllLinks() {
        // Numbers 0 9 18 are lost on link 0, 1 3 5 7 11 13 15 17 19 on link 2.
        run("LOST of all LINKS, added", "nodes(4)", "block(20)", "link(0, 4, 9)", "link(2, 4, 2)", "link(2, 5, 1)",
            "send(20)").due("lost(0, 0)", 3).due("lost(2, 0)", 9).due("first(11, 0)", 0).due("first(11, 1)", 0)
            .due("first(11, 2)", 3).due("first(12, 0)", NONE);
    }

    static void firstLinkMayBeEach() {
        for (int link = 0; link < 4; link++) {
            run("the first LINK on which any of it was LOST", "nodes(5)", "link(" + link + ", 4, 3)", "send(5)")
                .due("first(0, 0)", 0).due("first(0, 1)", link).due("first(0, 2)", 2).due("first(1, 1)", link)
                .due("first(2, 1)", NONE);
        }
    }

    static void firstLinkIsThatOfTheBlockAndNotOfAnEarlierOne() {
        run("on which any of it was LOST", "nodes(4)", "link(0, 4, 9)", "send(5)", "link(0, 4, 0)", "link(2, 4, 1)",
            "send(5)").due("first(1, 0)", 1).due("first(1, 1)", 2).due("first(1, 2)", 5);
    }

    static void firstGoesOnAsPacketsAreSent() {
        run("All that is told is as things are when it is asked", "link(0, 4, 1)", "send(2)").due("first(1, 0)", 0)
            .due("first(2, 0)", NONE).due("send(1)", 0).due("first(2, 0)", 0).due("first(2, 2)", 3);
    }
}
