import java.util.ArrayList;
import java.util.List;

/** The boundary cases of part 3 of the terms and of promises 12 to 15, each sentence with a test of its own. */
public final class SoundingsEdgesTest extends Edges {
    /** Links that take as long as they can at times that end in 9. */
    private static final String[] SLOW = slow();

    public static void main(String[] args) throws ReflectiveOperationException {
        testAll(SoundingsEdgesTest.class);
    }

    private static String[] slow() {
        List<String> calls = new ArrayList<>(List.of("nodes(5)"));
        for (int link = 0; link < 4; link++) {
            calls.addAll(List.of("link(" + link + ", 0, 20)", "link(" + link + ", 1, 9)", "link(" + link + ", 2, 20)",
                "link(" + link + ", 3, 9)"));
        }
        return calls.toArray(new String[0]);
    }

    // ---- promise 12: sound

    static void soundNeedsALaterNode() {
        for (int from = 0; from < 5; from++) {
            for (int to = 0; to < 5; to++) {
                Run r = run("the second one is not later", "nodes(5)");
                String call = "sound(" + from + ", " + to + ")";
                if (to > from) {
                    r.due(call, 10 * (to - from)).due("count(5)", 1).due("count(1)", 1);
                } else {
                    r.stays(call, OUTSIDE);
                }
            }
        }
    }

    static void soundComesToTheLastTimeAndNotBeyond() {
        run("FULL: TIME would be above 9999", pauses(9998)).due("sound(0, 1)", 10).due("count(1)", 9999)
            .stays("sound(0, 1)", FULL).stays("sound(0, 2)", FULL).due("count(5)", 1);
    }

    static void soundOfTheLastTickIsUnderWayBeyondIt() {
        run("at TIME, which is 1 more then", with(pauses(9998), "link(0, 3, 9)")).due("sound(0, 1)", 5 + 5 + 3)
            .due("apart(0, 1, 0)", -7).due("apart(0, 1, 1)", 4);
    }

    static void soundTakesOneTickOfTime() {
        run("at TIME, which is 1 more then", SLOW).due("sound(0, 4)", 20 + 20 + 20 + 20 + 20 + 20 + 20 + 20)
            .due("count(1)", 1).due("sound(0, 1)", 21 + 22).due("count(1)", 2);
    }

    static void soundAnswersTwoTicksAtLeast() {
        run("in how many ticks it is back", "link(0, 0, 1)", "link(0, 2, 1)").due("sound(0, 1)", 2);
    }

    /** From 9 on: 29, 28, 26, 22 there to 114; 24, 28, 26, 22 back to 214. */
    static void soundGoesOverSlowLinks() {
        run("over all LINKS between, there, and at once from b back over them", with(SLOW, "pause(9)"))
            .due("sound(0, 4)", 205).due("apart(0, 4, 0)", 105 - 205 + 4).due("apart(0, 4, 1)", 105 - 4);
    }

    static void soundGoesOverTheLinksBetweenAlone() {
        for (int link = 0; link < 4; link++) {
            for (int from = 0; from < 5; from++) {
                for (int to = from + 1; to < 5; to++) {
                    boolean between = link >= from && link < to;
                    run("over all LINKS between", "nodes(5)", "link(" + link + ", 0, 8)", "link(" + link + ", 2, 7)")
                        .due("sound(" + from + ", " + to + ")", 10 * (to - from) + (between ? 3 + 2 : 0))
                        .due("apart(" + from + ", " + to + ", 1)", 4 * (to - from) + (between ? 3 : 0))
                        .due("apart(" + from + ", " + to + ", 0)", -4 * (to - from) - (between ? 2 : 0));
                }
            }
        }
    }

    /** There to 11; back over link 1 first, 5 and 3 more to 19, then over link 0, 5 and 4 more to 28. */
    static void soundGoesBackOverTheLastLinkFirst() {
        run("back over them", "link(1, 0, 6)", "link(1, 3, 3)", "link(0, 3, 4)").due("sound(0, 2)", 28);
    }

    static void soundIsNotDropped() {
        run("A SOUNDING", "link(0, 4, 1)", "link(1, 4, 1)").due("sound(0, 2)", 20).due("count(5)", 1)
            .due("lost(0, -1)", 0).due("count(2)", 0);
    }

    static void soundIsTakenWithAllPacketsSent() {
        run("sound", TWO_HUNDRED).due("send(1)", FULL).due("sound(0, 1)", 10).due("count(5)", 1);
    }

    // ---- promise 13: apart

    static void apartNeedsALaterNode() {
        Run r = run("the second one is not later", "nodes(5)", "sound(0, 4)");
        for (int from = 0; from < 5; from++) {
            for (int to = 0; to < 5; to++) {
                boolean sounded = from == 0 && to == 4;
                int low = to <= from ? GONE + OUTSIDE : sounded ? -16 : GONE + NONE;
                int high = to <= from ? GONE + OUTSIDE : sounded ? 16 : GONE + NONE;
                r.due("apart(" + from + ", " + to + ", 0)", low).due("apart(" + from + ", " + to + ", 1)", high);
            }
        }
    }

    static void apartWhatIsZeroOrOne() {
        run("LOW (what = 0), HIGH (1)", "clock(1, 10)", "sound(0, 1)").stays("apart(0, 1, -1)", GONE + OUTSIDE)
            .stays("apart(0, 1, 0)", 6).stays("apart(0, 1, 1)", 14).stays("apart(0, 1, 2)", GONE + OUTSIDE);
        for (String what : FAR) {
            run("LOW (what = 0), HIGH (1)", RICH).stays("apart(0, 2, " + what + ")", GONE + OUTSIDE);
        }
    }

    static void apartIsNoneWithoutASounding() {
        run("NONE: there was no SOUNDING", "sound(0, 2)").stays("apart(0, 1, 0)", GONE + NONE)
            .stays("apart(0, 1, 1)", GONE + NONE).stays("apart(1, 2, 0)", GONE + NONE).due("apart(0, 2, 0)", -8);
    }

    static void apartIsNoneAfterASoundingThatWasRefused() {
        run("NONE: there was no SOUNDING").due("sound(1, 0)", OUTSIDE).due("sound(0, 3)", UNKNOWN)
            .due("apart(0, 1, 0)", GONE + NONE);
        run("NONE: there was no SOUNDING", pauses(LAST_TIME)).due("sound(0, 1)", FULL)
            .due("apart(0, 1, 0)", GONE + NONE);
    }

    static void apartIsNoneIfItWent() {
        for (int node = 0; node < 2; node++) {
            run("or it went", "sound(0, 1)", "clock(" + node + ", 0)").stays("apart(0, 1, 0)", GONE + NONE)
                .stays("apart(0, 1, 1)", GONE + NONE);
        }
        run("or it went", "sound(0, 1)").due("nodes(3)", 3).due("apart(0, 1, 0)", GONE + NONE);
        run("or it went", "image(0)", "sound(0, 1)", "restore(0)").due("apart(0, 1, 0)", GONE + NONE);
    }

    static void apartBeginsAnewAfterItWent() {
        run("or it went", "link(0, 0, 1)", "link(0, 2, 1)", "sound(0, 1)", "link(0, 0, 20)", "link(0, 2, 20)")
            .due("apart(0, 1, 0)", 0).due("clock(1, 0)", 0).due("sound(0, 1)", 40).due("apart(0, 1, 0)", -19)
            .due("apart(0, 1, 1)", 19);
    }

    static void apartLowAndHighMeetIfLinksTakeOneTick() {
        Run r = run("each of which takes 1 tick at least", "nodes(5)", "clock(0, 7)", "clock(4, -12)");
        for (int link = 0; link < 4; link++) {
            r.after("link(" + link + ", 0, 1)", "link(" + link + ", 2, 1)");
        }
        r.due("sound(0, 4)", 8).due("apart(0, 4, 0)", -19).due("apart(0, 4, 1)", -19).due("tight(0, 4)", -19)
            .due("tight(4, 0)", 19);
    }

    static void apartOfClocksThatAreFarthestApart() {
        run("APART of a and b", "link(0, 0, 1)", "link(0, 2, 1)", "clock(0, -99)", "clock(1, 99)", "sound(0, 1)")
            .due("apart(0, 1, 0)", 198).due("apart(0, 1, 1)", 198);
        run("APART of a and b", "link(0, 0, 1)", "link(0, 2, 1)", "clock(0, 99)", "clock(1, -99)", "sound(0, 1)")
            .due("apart(0, 1, 0)", -198).due("apart(0, 1, 1)", -198);
        run("APART of a and b", with(SLOW, "clock(0, -99)", "clock(4, 99)", "pause(9)", "sound(0, 4)"))
            .due("apart(0, 4, 0)", 198 - 96).due("apart(0, 4, 1)", 198 + 101);
        run("APART of a and b", with(SLOW, "clock(0, 99)", "clock(4, -99)", "pause(9)", "sound(0, 4)"))
            .due("apart(0, 4, 0)", -198 - 96).due("apart(0, 4, 1)", -198 + 101);
    }

    /** They can be -1 to -6, and are no refusals then. */
    static void apartBelowZeroIsNoRefusal() {
        for (int v = -1; v >= -6; v--) {
            run("GONE and these", "clock(1, " + (v - 4) + ")", "sound(0, 1)").due("apart(0, 1, 1)", v);
            run("GONE and these", "clock(1, " + (v + 4) + ")", "sound(0, 1)").due("apart(0, 1, 0)", v);
        }
    }

    static void apartLowIsTheGreatest() {
        run("the greatest of what APART is no less than", "sound(0, 1)", "link(0, 2, 6)", "sound(0, 1)")
            .due("apart(0, 1, 0)", -4).after("link(0, 2, 5)", "sound(0, 1)").due("apart(0, 1, 0)", -4)
            .after("link(0, 2, 4)", "sound(0, 1)").due("apart(0, 1, 0)", -3).due("apart(0, 1, 1)", 4);
    }

    static void apartHighIsTheLeast() {
        run("the least of what it is no more than", "sound(0, 1)", "link(0, 0, 6)", "sound(0, 1)")
            .due("apart(0, 1, 1)", 4).after("link(0, 0, 5)", "sound(0, 1)").due("apart(0, 1, 1)", 4)
            .after("link(0, 0, 4)", "sound(0, 1)").due("apart(0, 1, 1)", 3).due("apart(0, 1, 0)", -4);
    }

    static void apartLowAndHighMayComeFromTwoSoundings() {
        run("of all SOUNDINGS from a to b", "link(0, 0, 1)", "link(0, 2, 20)", "sound(0, 1)", "link(0, 0, 20)",
            "link(0, 2, 1)", "sound(0, 1)").due("apart(0, 1, 0)", 0).due("apart(0, 1, 1)", 0);
    }

    static void apartOfEachPairIsItsOwn() {
        Run r = run("LOW and HIGH of a and b", "nodes(5)");
        int pairs = 0;
        for (int from = 0; from < 5; from++) {
            for (int to = from + 1; to < 5; to++) {
                r.due("apart(" + from + ", " + to + ", 0)", GONE + NONE).due("count(5)", pairs)
                    .after("sound(" + from + ", " + to + ")").due("apart(" + from + ", " + to + ", 0)", -4 * (to - from))
                    .due("apart(" + from + ", " + to + ", 1)", 4 * (to - from));
                pairs++;
            }
        }
        r.due("count(5)", 10);
    }

    // ---- promise 14: tight

    static void tightOfANodeAndItselfIsZero() {
        Run r = run("0 from a NODE to itself", "nodes(5)");
        for (int node = 0; node < 5; node++) {
            r.due("tight(" + node + ", " + node + ")", 0);
        }
        r.after("clock(0, 99)", "clock(4, -99)", "sound(0, 4)", "sound(1, 2)");
        for (int node = 0; node < 5; node++) {
            r.due("tight(" + node + ", " + node + ")", 0);
        }
    }

    static void tightIsNoneIfNothingFollows() {
        run("NONE: nothing follows", "nodes(5)", "sound(0, 1)", "sound(3, 4)").stays("tight(1, 3)", GONE + NONE)
            .stays("tight(3, 1)", GONE + NONE).stays("tight(0, 4)", GONE + NONE).stays("tight(2, 0)", GONE + NONE)
            .stays("tight(0, 2)", GONE + NONE).due("tight(0, 1)", 4).due("tight(4, 3)", 4);
    }

    static void tightFollowsFromTheLastStepThatWasMissing() {
        run("along any row of NODES from x to y", "nodes(5)", "sound(0, 1)", "sound(1, 2)", "sound(3, 4)")
            .due("tight(0, 4)", GONE + NONE).due("tight(4, 0)", GONE + NONE).after("sound(2, 3)")
            .due("tight(0, 4)", 16).due("tight(4, 0)", 16);
    }

    static void tightIsNoneOnceTheClockBetweenIsSet() {
        run("all HIGHS and LOWS of it with other NODES go", "sound(0, 1)", "sound(1, 2)").due("tight(0, 2)", 8)
            .after("clock(1, 0)").due("tight(0, 2)", GONE + NONE).due("tight(0, 1)", GONE + NONE)
            .due("tight(1, 1)", 0);
    }

    static void tightStepsAheadByHighAndBackByLow() {
        run("to an earlier one by LOW of them with the sign turned", "clock(1, 20)", "link(0, 0, 3)",
            "link(0, 2, 8)", "sound(0, 1)").due("apart(0, 1, 1)", 22).due("apart(0, 1, 0)", 13)
            .due("tight(0, 1)", 22).due("tight(1, 0)", -13);
    }

    /** It can be -1 to -6, and is no refusal then. */
    static void tightBelowZeroIsNoRefusal() {
        for (int v = -1; v >= -6; v--) {
            run("GONE and these", "clock(1, " + (v - 4) + ")", "sound(0, 1)").due("tight(0, 1)", v);
            run("GONE and these", "clock(1, " + (4 - v) + ")", "sound(0, 1)").due("tight(1, 0)", v);
        }
    }

    /** Every row over all five nodes, with no other step known, is found from both its ends. */
    static void tightGoesOverAllNodesInAnyOrder() {
        int[] order = new int[5];
        for (int n = 0; n < 3125; n++) {
            int seen = 0;
            for (int i = 0, left = n; i < 5; i++, left /= 5) {
                order[i] = left % 5;
                seen |= 1 << order[i];
            }
            if (seen == 31) {
                dueRow(order);
            }
        }
    }

    private static void dueRow(int[] order) {
        Run r = run("the least sum along any row of NODES from x to y", "nodes(5)");
        int sum = 0;
        for (int i = 0; i < 4; i++) {
            int a = Math.min(order[i], order[i + 1]);
            int b = Math.max(order[i], order[i + 1]);
            sum += 4 * (b - a);
            r.after("sound(" + a + ", " + b + ")");
        }
        r.due("tight(" + order[0] + ", " + order[4] + ")", sum).due("tight(" + order[4] + ", " + order[0] + ")", sum);
    }

    static void tightTakesTheLeastOfTheWays() {
        run("the least sum", "link(0, 0, 9)", "sound(0, 2)", "link(0, 0, 2)", "sound(0, 1)", "sound(1, 2)")
            .due("apart(0, 2, 1)", 12).due("tight(0, 2)", 1 + 4).due("tight(2, 0)", 8);
        run("the least sum", "sound(0, 1)", "sound(1, 2)", "link(0, 0, 1)", "link(1, 0, 1)", "sound(0, 2)")
            .due("apart(0, 1, 1)", 4).due("tight(0, 2)", 0).due("tight(0, 1)", 4).due("tight(1, 2)", 4)
            .due("tight(2, 0)", 8);
    }

    static void tightOfTwoNodesGoesByWayOfALaterOne() {
        run("to an earlier one by LOW of them", "link(0, 0, 1)", "link(1, 0, 1)", "sound(0, 2)", "link(1, 2, 1)",
            "sound(1, 2)").due("apart(0, 1, 1)", GONE + NONE).due("tight(0, 1)", 0).due("tight(1, 0)", 8);
    }

    static void tightIsTheSameWaysRoundAsZero() {
        run("0 from a NODE to itself", "link(0, 0, 1)", "link(0, 2, 1)", "clock(1, 50)", "sound(0, 1)")
            .due("tight(0, 1)", 50).due("tight(1, 0)", -50).due("tight(0, 0)", 0).due("tight(1, 1)", 0);
    }

    static void tightLeastAndMost() {
        run("TIGHT", "nodes(5)", "clock(0, 99)", "clock(4, -99)", "link(0, 0, 1)", "link(1, 0, 1)", "link(2, 0, 1)",
            "link(3, 0, 1)", "sound(0, 1)", "sound(1, 2)", "sound(2, 3)", "sound(3, 4)").due("tight(0, 4)", -198)
            .due("tight(4, 0)", 198 + 16);
        run("TIGHT", with(SLOW, "clock(0, -99)", "clock(4, 99)", "pause(9)", "sound(0, 1)", "pause(9)",
            "sound(1, 2)", "pause(9)", "sound(2, 3)", "pause(9)", "sound(3, 4)")).due("tight(0, 4)", 198 + 4 * 28);
    }

    // ---- promise 15: truth

    static void truthNeedsALaterNode() {
        Run r = run("the second one is not later", "nodes(5)", "sound(0, 1)", "sound(1, 2)", "sound(2, 3)",
            "sound(3, 4)", "send(5)");
        for (int from = 0; from < 5; from++) {
            for (int to = 0; to < 5; to++) {
                String call = "truth(" + from + ", " + to + ", 0, ";
                int links = to - from;
                r.due(call + "0, 0)", links > 0 ? 9 * links : GONE + OUTSIDE)
                    .due(call + "1, 0)", links > 0 ? links : GONE + OUTSIDE)
                    .due(call + "1, 1)", links > 0 ? 1 : GONE + OUTSIDE);
            }
        }
    }

    static void truthTakesBlocksZeroToTheLast() {
        run("b", RICH).stays("truth(0, 1, -1, 0, 0)", GONE + OUTSIDE).stays("truth(0, 1, 199, 0, 0)", GONE + NO)
            .stays("truth(0, 1, 200, 0, 0)", GONE + OUTSIDE);
        run("b", with(new String[] {"block(1)", "sound(0, 1)"}, TWO_HUNDRED)).due("truth(0, 1, 0, 0, 0)", 9)
            .due("truth(0, 1, 199, 0, 0)", 9).due("truth(0, 1, 199, 1, 0)", 1)
            .due("truth(0, 1, 200, 0, 0)", GONE + OUTSIDE).due("truth(0, 1, -1, 0, 0)", GONE + OUTSIDE);
        for (String b : FAR) {
            run("b", RICH).stays("truth(0, 1, " + b + ", 0, 0)", GONE + OUTSIDE);
        }
    }

    static void truthWhatIsZeroOrOne() {
        run("no more (what = 0), no less (1)", "sound(0, 1)", "send(5)").stays("truth(0, 1, 0, -1, 0)", GONE + OUTSIDE)
            .stays("truth(0, 1, 0, 0, 0)", 9).stays("truth(0, 1, 0, 1, 0)", 1)
            .stays("truth(0, 1, 0, 2, 0)", GONE + OUTSIDE);
        for (String what : FAR) {
            run("no more (what = 0), no less (1)", RICH).stays("truth(0, 1, 0, " + what + ", 0)", GONE + OUTSIDE);
        }
    }

    static void truthPartIsZeroOrOne() {
        run("part: 0 the upper number, 1 the lower one", "sound(0, 1)", "send(5)")
            .stays("truth(0, 1, 0, 0, -1)", GONE + OUTSIDE).stays("truth(0, 1, 0, 0, 0)", 9)
            .stays("truth(0, 1, 0, 0, 1)", 1).stays("truth(0, 1, 0, 0, 2)", GONE + OUTSIDE);
        for (String part : FAR) {
            run("part", RICH).stays("truth(0, 1, 0, 0, " + part + ")", GONE + OUTSIDE);
        }
    }

    private static void dueTruthOfEachKind(Run r, String pairAndBlock, int want) {
        for (int kind = 0; kind < 4; kind++) {
            r.stays("truth(" + pairAndBlock + ", " + kind / 2 + ", " + kind % 2 + ")", want);
        }
    }

    static void truthIsNoIfThereIsNoTook() {
        Run r = run("NO: there is no TOOK", "link(1, 4, 9)", "sound(0, 1)", "sound(1, 2)", "send(5)");
        dueTruthOfEachKind(r, "0, 2, 0", GONE + NO);
        dueTruthOfEachKind(r, "1, 2, 0", GONE + NO);
        dueTruthOfEachKind(r, "0, 1, 1", GONE + NO);
        r.due("truth(0, 1, 0, 0, 0)", 9);
    }

    static void truthIsNoIfNoneCameToEither() {
        dueTruthOfEachKind(run("NO: there is no TOOK", "link(0, 4, 1)", "sound(1, 2)", "send(5)"), "1, 2, 0",
            GONE + NO);
    }

    static void truthIsNoneIfThereIsNoTight() {
        Run r = run("NONE: there is no such TIGHT", "sound(0, 1)", "send(5)");
        dueTruthOfEachKind(r, "1, 2, 0", GONE + NONE);
        dueTruthOfEachKind(r, "0, 2, 0", GONE + NONE);
        r.due("truth(0, 1, 0, 0, 0)", 9).after("sound(1, 2)").due("truth(1, 2, 0, 0, 0)", 9)
            .due("truth(0, 2, 0, 0, 0)", 18);
    }

    static void truthIsNoIfThereIsNeither() {
        dueTruthOfEachKind(run("answer the first that fits"), "0, 1, 0", GONE + NO);
        dueTruthOfEachKind(run("answer the first that fits", "send(5)"), "0, 1, 1", GONE + NO);
    }

    static void truthAddsTightOfTheLaterOneAndTheOther() {
        run("TOOK and TIGHT of the later one and the other one, added (0)", "clock(1, 30)", "link(0, 2, 9)",
            "sound(0, 1)", "send(5)").due("took(0, 1, 0, 0)", 35).due("tight(1, 0)", -22)
            .due("truth(0, 1, 0, 0, 0)", 13).due("truth(0, 1, 0, 0, 1)", 1);
    }

    static void truthTakesAwayTightOfTheOneAndTheLater() {
        run("TOOK less TIGHT of the one and the later one (1)", "clock(1, 30)", "link(0, 2, 9)", "sound(0, 1)",
            "send(5)").due("tight(0, 1)", 34).due("truth(0, 1, 0, 1, 0)", 1).due("truth(0, 1, 0, 1, 1)", 1);
    }

    /** HIGH is what a slow link gave, TOOK is 5: it can be -1 to -6, and is no refusal then. */
    static void truthBelowZeroIsNoRefusal() {
        for (int v = -1; v >= -6; v--) {
            run("GONE and these", "link(0, 0, " + (6 - v) + ")", "sound(0, 1)", "link(0, 0, 5)", "send(5)")
                .due("tight(0, 1)", 5 - v).due("truth(0, 1, 0, 1, 0)", v).due("truth(0, 1, 0, 1, 1)", 1);
        }
    }

    static void truthOfZeroIsZeroByOne() {
        run("of 0: 0 by 1", "block(20)", "link(0, 0, 6)", "sound(0, 1)", "link(0, 0, 5)", "send(20)")
            .due("truth(0, 1, 0, 1, 0)", 0).due("truth(0, 1, 0, 1, 1)", 1);
    }

    static void truthOfTwentyPacketsIsInLowestTerms() {
        // The sounding at 0 tells HIGH 4 and LOW -4; the packets go at 1 to 20 and take 5 each, and 75 more.
        run("in lowest terms", "block(20)", "link(0, 1, 8)", "sound(0, 1)", "send(20)")
            .due("took(0, 1, 0, 0)", 35).due("took(0, 1, 0, 1)", 4).due("truth(0, 1, 0, 0, 0)", 35 + 16)
            .due("truth(0, 1, 0, 0, 1)", 4).due("truth(0, 1, 0, 1, 0)", 35 - 16).due("truth(0, 1, 0, 1, 1)", 4);
    }

    static void truthBelowZeroHasTheSignAbove() {
        run("the lower one, above 0", "block(2)", "link(0, 0, 20)", "sound(0, 1)", "link(0, 0, 1)", "link(0, 1, 1)",
            "send(2)").due("took(0, 1, 0, 0)", 3).due("took(0, 1, 0, 1)", 2).due("truth(0, 1, 0, 1, 0)", 3 - 38)
            .due("truth(0, 1, 0, 1, 1)", 2);
    }

    static void truthIsExactIfLinksTookOneTick() {
        run("What it can be no more, no less than", "link(0, 0, 1)", "link(0, 2, 1)", "clock(0, 99)",
            "clock(1, -99)", "sound(0, 1)", "link(0, 0, 17)", "send(5)").due("took(0, 1, 0, 0)", 17 - 198)
            .due("truth(0, 1, 0, 0, 0)", 17).due("truth(0, 1, 0, 1, 0)", 17);
    }

    static void truthGoesByWayOfOtherNodes() {
        run("TIGHT of the later one and the other one", "sound(0, 2)", "sound(1, 2)", "send(5)")
            .due("apart(0, 1, 0)", GONE + NONE).due("truth(0, 1, 0, 0, 0)", 5 + 8 + 4)
            .due("truth(0, 1, 0, 1, 0)", 5 - 8 - 4);
    }

    static void truthGoesWithTheBoundsAsTheyAre() {
        run("All that is told is as things are when it is asked", "sound(0, 1)", "send(5)")
            .due("truth(0, 1, 0, 0, 0)", 9).after("link(0, 2, 1)", "sound(0, 1)").due("truth(0, 1, 0, 0, 0)", 5)
            .due("truth(0, 1, 0, 1, 0)", 1);
    }
}
