/**
 * Each refusal of each call alone, and two and more at once, where the first that fits is answered, in the
 * order in which they are told with the call; and none of them changes anything.
 */
public final class RefusalsTest extends Edges {
    private static final String FIRST = "answer the first that fits";
    private static final String[] NO_NODES = {"-1", "4", "5", "min", "max"};
    private static final String[] NO_LINKS = {"-1", "3", "4", "min", "max"};
    private static final String[] NO_BLOCKS = {"-1", "200", "min", "max"};
    private static final String[] NEITHER = {"-1", "2", "min", "max"};
    private static final String[] FULL_OF_ALL = with(RICH_OF_PACKETS, pauses(LAST_TIME - RICH_TIME - 188));

    public static void main(String[] args) throws ReflectiveOperationException {
        testAll(RefusalsTest.class);
    }

    static void nodes() {
        for (String v : new String[] {"1", "6", "0", "-1", "min", "max"}) {
            run("nodes: OUTSIDE", RICH).stays("nodes(" + v + ")", OUTSIDE);
        }
    }

    static void linkUnknown() {
        for (String link : NO_LINKS) {
            run("link: UNKNOWN", RICH).stays("link(" + link + ", 0, 5)", UNKNOWN);
        }
    }

    static void linkUnknownComesBeforeOutside() {
        for (String link : NO_LINKS) {
            run(FIRST, RICH).stays("link(" + link + ", 6, 5)", UNKNOWN).stays("link(" + link + ", -1, 5)", UNKNOWN)
                .stays("link(" + link + ", 0, 0)", UNKNOWN).stays("link(" + link + ", 1, 10)", UNKNOWN)
                .stays("link(" + link + ", 6, 21)", UNKNOWN).stays("link(" + link + ", -1, -1)", UNKNOWN);
        }
    }

    static void linkOutsideOfBoth() {
        run("link: OUTSIDE: both", RICH).stays("link(0, 6, 21)", OUTSIDE).stays("link(0, -1, -1)", OUTSIDE)
            .stays("link(0, max, min)", OUTSIDE).stays("link(0, min, max)", OUTSIDE);
    }

    static void clockUnknown() {
        for (String node : NO_NODES) {
            run("clock: UNKNOWN", STIRRED).stays("clock(" + node + ", 0)", GONE + UNKNOWN);
        }
    }

    static void clockUnknownComesBeforeOutsideAndState() {
        for (String node : NO_NODES) {
            run(FIRST, STIRRED).stays("clock(" + node + ", 100)", GONE + UNKNOWN)
                .stays("clock(" + node + ", -100)", GONE + UNKNOWN);
            run(FIRST, RICH).stays("clock(" + node + ", 0)", GONE + UNKNOWN)
                .stays("clock(" + node + ", 100)", GONE + UNKNOWN);
        }
    }

    static void clockOutsideComesBeforeState() {
        for (String v : new String[] {"100", "-100", "min", "max"}) {
            run(FIRST, RICH).stays("clock(0, " + v + ")", GONE + OUTSIDE);
        }
    }

    static void clockState() {
        run("clock: STATE: PACKETS were sent", RICH).stays("clock(0, 11)", GONE + STATE)
            .stays("clock(3, -99)", GONE + STATE).stays("clock(1, 99)", GONE + STATE);
    }

    static void blockOutsideComesBeforeState() {
        for (String v : new String[] {"0", "21", "-1", "min", "max"}) {
            run("block: OUTSIDE", STIRRED).stays("block(" + v + ")", OUTSIDE);
            run(FIRST, RICH).stays("block(" + v + ")", OUTSIDE);
        }
    }

    static void blockState() {
        run("block: STATE: PACKETS were sent", RICH).stays("block(3)", STATE).stays("block(1)", STATE)
            .stays("block(20)", STATE);
    }

    static void pauseOutsideComesBeforeFull() {
        for (String n : new String[] {"0", "1000", "-1", "min", "max"}) {
            run("pause: OUTSIDE", RICH).stays("pause(" + n + ")", OUTSIDE);
            run(FIRST, RICH_LATE).stays("pause(" + n + ")", OUTSIDE);
        }
    }

    static void pauseFull() {
        run("pause: FULL", RICH_LATE).stays("pause(1)", FULL).stays("pause(999)", FULL);
    }

    static void sendOutsideComesBeforeFull() {
        for (String n : new String[] {"0", "61", "-1", "min", "max"}) {
            run("send: OUTSIDE", RICH).stays("send(" + n + ")", OUTSIDE);
            run(FIRST, RICH_OF_PACKETS).stays("send(" + n + ")", OUTSIDE);
            run(FIRST, RICH_LATE).stays("send(" + n + ")", OUTSIDE);
            run(FIRST, FULL_OF_ALL).stays("send(" + n + ")", OUTSIDE);
        }
    }

    static void sendFullOfEitherAndBoth() {
        run("send: FULL: more than 200", RICH_OF_PACKETS).stays("send(1)", FULL).stays("send(60)", FULL);
        run("send: FULL: TIME above 9999", RICH_LATE).stays("send(1)", FULL).stays("send(60)", FULL);
        run("send: FULL: both", FULL_OF_ALL).due("count(1)", LAST_TIME).due("count(2)", 200).stays("send(1)", FULL)
            .stays("send(60)", FULL);
    }

    static void keptUnknownComesBeforeOutside() {
        for (String node : NO_NODES) {
            run("kept: UNKNOWN", RICH).stays("kept(" + node + ", 0, 0)", GONE + UNKNOWN)
                .stays("kept(" + node + ", 0, 1)", GONE + UNKNOWN);
            run(FIRST, RICH).stays("kept(" + node + ", 200, 0)", GONE + UNKNOWN)
                .stays("kept(" + node + ", -1, 0)", GONE + UNKNOWN).stays("kept(" + node + ", 0, 2)", GONE + UNKNOWN)
                .stays("kept(" + node + ", 0, -1)", GONE + UNKNOWN)
                .stays("kept(" + node + ", 200, 2)", GONE + UNKNOWN);
        }
    }

    static void keptOutsideOfEitherAndBoth() {
        for (String b : NO_BLOCKS) {
            run("kept: OUTSIDE: b", RICH).stays("kept(0, " + b + ", 0)", GONE + OUTSIDE)
                .stays("kept(3, " + b + ", 1)", GONE + OUTSIDE);
            for (String what : NEITHER) {
                run("kept: OUTSIDE: both", RICH).stays("kept(0, " + b + ", " + what + ")", GONE + OUTSIDE);
            }
        }
        for (String what : NEITHER) {
            run("kept: OUTSIDE: what", RICH).stays("kept(3, 0, " + what + ")", GONE + OUTSIDE);
        }
    }

    static void lostUnknownComesBeforeOutside() {
        for (String link : NO_LINKS) {
            run("lost: UNKNOWN", RICH).stays("lost(" + link + ", 0)", UNKNOWN).stays("lost(" + link + ", -1)", UNKNOWN);
            run(FIRST, RICH).stays("lost(" + link + ", -2)", UNKNOWN).stays("lost(" + link + ", 200)", UNKNOWN);
        }
    }

    static void lostOutside() {
        for (String b : new String[] {"-2", "200", "min", "max"}) {
            run("lost: OUTSIDE", RICH).stays("lost(0, " + b + ")", OUTSIDE).stays("lost(2, " + b + ")", OUTSIDE);
        }
    }

    static void tookUnknownOfEitherAndBoth() {
        for (String node : NO_NODES) {
            run("took: UNKNOWN: both", RICH).stays("took(" + node + ", 1, 0, 0)", GONE + UNKNOWN)
                .stays("took(0, " + node + ", 0, 0)", GONE + UNKNOWN)
                .stays("took(" + node + ", " + node + ", 0, 0)", GONE + UNKNOWN);
        }
    }

    static void tookUnknownComesBeforeAllElse() {
        for (String node : NO_NODES) {
            run(FIRST, RICH).stays("took(" + node + ", 0, 0, 0)", GONE + UNKNOWN)
                .stays("took(3, " + node + ", 0, 0)", GONE + UNKNOWN)
                .stays("took(0, " + node + ", 200, 0)", GONE + UNKNOWN)
                .stays("took(0, " + node + ", 0, 2)", GONE + UNKNOWN)
                .stays("took(0, " + node + ", 199, 0)", GONE + UNKNOWN)
                .stays("took(" + node + ", 0, -1, -1)", GONE + UNKNOWN);
        }
    }

    /** Block 199 has no packets, so that there is no TOOK either. */
    static void tookOutsideComesBeforeNo() {
        run("took: OUTSIDE", RICH).stays("took(1, 1, 0, 0)", GONE + OUTSIDE).stays("took(3, 0, 0, 0)", GONE + OUTSIDE);
        run(FIRST, RICH).stays("took(1, 1, 199, 0)", GONE + OUTSIDE).stays("took(3, 0, 199, 1)", GONE + OUTSIDE)
            .stays("took(0, 1, 199, 2)", GONE + OUTSIDE).stays("took(0, 1, 199, -1)", GONE + OUTSIDE);
        for (String b : NO_BLOCKS) {
            run("took: OUTSIDE", RICH).stays("took(0, 1, " + b + ", 0)", GONE + OUTSIDE)
                .stays("took(1, 0, " + b + ", 0)", GONE + OUTSIDE).stays("took(0, 1, " + b + ", 2)", GONE + OUTSIDE);
        }
        for (String part : NEITHER) {
            run("took: OUTSIDE", RICH).stays("took(0, 1, 0, " + part + ")", GONE + OUTSIDE)
                .stays("took(1, 0, 0, " + part + ")", GONE + OUTSIDE);
        }
    }

    static void tookNo() {
        run("took: NO", RICH).stays("took(0, 1, 4, 0)", GONE + NO).stays("took(0, 1, 199, 1)", GONE + NO)
            .stays("took(0, 2, 0, 0)", GONE + NO).stays("took(1, 3, 0, 1)", GONE + NO);
    }

    static void firstOutsideOfEitherAndBothComesBeforeNone() {
        for (String[] state : new String[][] {RICH, STIRRED}) {
            for (String limit : new String[] {"-1", "21", "min", "max"}) {
                run("first: OUTSIDE", state).stays("first(" + limit + ", 0)", OUTSIDE)
                    .stays("first(" + limit + ", 2)", OUTSIDE).stays("first(" + limit + ", 3)", OUTSIDE);
            }
            for (String what : new String[] {"-1", "3", "min", "max"}) {
                run("first: OUTSIDE", state).stays("first(0, " + what + ")", OUTSIDE)
                    .stays("first(20, " + what + ")", OUTSIDE).stays("first(21, " + what + ")", OUTSIDE);
            }
        }
    }

    static void firstNone() {
        run("first: NONE", STIRRED).stays("first(0, 0)", NONE).stays("first(20, 2)", NONE);
        run("first: NONE", RICH).stays("first(1, 0)", NONE).stays("first(1, 1)", NONE).stays("first(1, 2)", NONE);
    }

    static void soundUnknownComesBeforeOutsideAndFull() {
        for (String[] state : new String[][] {RICH, RICH_LATE}) {
            for (String node : NO_NODES) {
                run("sound: UNKNOWN: both", state).stays("sound(0, " + node + ")", UNKNOWN)
                    .stays("sound(" + node + ", 1)", UNKNOWN).stays("sound(" + node + ", 0)", UNKNOWN)
                    .stays("sound(3, " + node + ")", UNKNOWN).stays("sound(" + node + ", " + node + ")", UNKNOWN);
            }
        }
    }

    static void soundOutsideComesBeforeFull() {
        for (String[] state : new String[][] {RICH, RICH_LATE}) {
            run("sound: OUTSIDE", state).stays("sound(1, 1)", OUTSIDE).stays("sound(1, 0)", OUTSIDE)
                .stays("sound(3, 0)", OUTSIDE).stays("sound(0, 0)", OUTSIDE).stays("sound(3, 3)", OUTSIDE);
        }
    }

    static void soundFull() {
        run("sound: FULL", RICH_LATE).stays("sound(0, 1)", FULL).stays("sound(0, 3)", FULL)
            .stays("sound(2, 3)", FULL);
    }

    static void apartUnknownComesBeforeOutsideAndNone() {
        for (String node : NO_NODES) {
            run("apart: UNKNOWN: both", RICH).stays("apart(0, " + node + ", 0)", GONE + UNKNOWN)
                .stays("apart(" + node + ", 1, 0)", GONE + UNKNOWN).stays("apart(" + node + ", 0, 1)", GONE + UNKNOWN)
                .stays("apart(3, " + node + ", 1)", GONE + UNKNOWN)
                .stays("apart(" + node + ", " + node + ", 0)", GONE + UNKNOWN)
                .stays("apart(0, " + node + ", 2)", GONE + UNKNOWN)
                .stays("apart(" + node + ", 0, -1)", GONE + UNKNOWN);
        }
    }

    /** Nodes 0 and 1 have no bounds, 0 and 2 have. */
    static void apartOutsideComesBeforeNone() {
        run("apart: OUTSIDE", RICH).stays("apart(2, 0, 0)", GONE + OUTSIDE).stays("apart(2, 2, 0)", GONE + OUTSIDE)
            .stays("apart(1, 0, 0)", GONE + OUTSIDE);
        for (String what : NEITHER) {
            run("apart: OUTSIDE", RICH).stays("apart(0, 2, " + what + ")", GONE + OUTSIDE)
                .stays("apart(0, 1, " + what + ")", GONE + OUTSIDE).stays("apart(2, 0, " + what + ")", GONE + OUTSIDE);
        }
    }

    static void apartNone() {
        run("apart: NONE", RICH).stays("apart(0, 1, 0)", GONE + NONE).stays("apart(0, 1, 1)", GONE + NONE)
            .stays("apart(2, 3, 0)", GONE + NONE);
    }

    static void tightUnknownComesBeforeNone() {
        for (String[] state : new String[][] {RICH, {"nodes(4)"}}) {
            for (String node : NO_NODES) {
                run("tight: UNKNOWN: both", state).stays("tight(0, " + node + ")", GONE + UNKNOWN)
                    .stays("tight(" + node + ", 0)", GONE + UNKNOWN)
                    .stays("tight(" + node + ", " + node + ")", GONE + UNKNOWN);
            }
        }
    }

    static void tightNone() {
        run("tight: NONE", STIRRED).stays("tight(0, 1)", GONE + NONE).stays("tight(3, 0)", GONE + NONE);
    }

    static void truthUnknownComesBeforeAllElse() {
        for (String[] state : new String[][] {RICH, STIRRED}) {
            for (String node : NO_NODES) {
                run("truth: UNKNOWN: both", state).stays("truth(0, " + node + ", 0, 0, 0)", GONE + UNKNOWN)
                    .stays("truth(" + node + ", 1, 0, 0, 0)", GONE + UNKNOWN)
                    .stays("truth(" + node + ", 0, 0, 0, 0)", GONE + UNKNOWN)
                    .stays("truth(" + node + ", " + node + ", 0, 0, 0)", GONE + UNKNOWN)
                    .stays("truth(0, " + node + ", 200, 0, 0)", GONE + UNKNOWN)
                    .stays("truth(0, " + node + ", 0, 2, 0)", GONE + UNKNOWN)
                    .stays("truth(0, " + node + ", 0, 0, 2)", GONE + UNKNOWN)
                    .stays("truth(0, " + node + ", 199, 0, 0)", GONE + UNKNOWN);
            }
        }
    }

    private static void dueTruthOutside(String[] state) {
        run("truth: OUTSIDE", state).stays("truth(1, 1, 0, 0, 0)", GONE + OUTSIDE)
            .stays("truth(3, 0, 0, 0, 0)", GONE + OUTSIDE).stays("truth(1, 1, 199, 0, 0)", GONE + OUTSIDE);
        for (String b : NO_BLOCKS) {
            run("truth: OUTSIDE", state).stays("truth(0, 2, " + b + ", 0, 0)", GONE + OUTSIDE)
                .stays("truth(2, 0, " + b + ", 0, 0)", GONE + OUTSIDE)
                .stays("truth(0, 2, " + b + ", 2, 0)", GONE + OUTSIDE)
                .stays("truth(0, 2, " + b + ", 0, 2)", GONE + OUTSIDE);
        }
        for (String no : NEITHER) {
            run("truth: OUTSIDE", state).stays("truth(0, 2, 0, " + no + ", 0)", GONE + OUTSIDE)
                .stays("truth(0, 2, 0, 0, " + no + ")", GONE + OUTSIDE)
                .stays("truth(0, 2, 0, " + no + ", " + no + ")", GONE + OUTSIDE)
                .stays("truth(2, 0, 0, " + no + ", 0)", GONE + OUTSIDE)
                .stays("truth(0, 2, 199, " + no + ", 0)", GONE + OUTSIDE)
                .stays("truth(0, 2, 199, 0, " + no + ")", GONE + OUTSIDE);
        }
    }

    /** In turn with TOOK and TIGHT, with TIGHT alone, with TOOK alone, with neither. */
    static void truthOutsideComesBeforeNoAndNone() {
        dueTruthOutside(new String[] {"nodes(4)", "sound(0, 2)", "send(5)"});
        dueTruthOutside(STIRRED);
        dueTruthOutside(new String[] {"nodes(4)", "send(5)"});
        dueTruthOutside(new String[] {"nodes(4)"});
    }

    static void truthNoComesBeforeNone() {
        for (int kind = 0; kind < 4; kind++) {
            String end = ", " + kind / 2 + ", " + kind % 2 + ")";
            run("truth: NO, with TIGHT", STIRRED).stays("truth(0, 2, 0" + end, GONE + NO);
            run(FIRST, "nodes(4)").stays("truth(0, 2, 0" + end, GONE + NO);
            run("truth: NONE, with TOOK", "nodes(4)", "send(1)").stays("truth(0, 2, 0" + end, GONE + NONE)
                .stays("truth(0, 2, 1" + end, GONE + NO);
        }
    }

    static void image() {
        for (String k : NEITHER) {
            run("image: OUTSIDE", RICH).stays("image(" + k + ")", OUTSIDE);
            run("image: OUTSIDE", STIRRED).stays("image(" + k + ")", OUTSIDE);
        }
    }

    static void restoreOutsideComesBeforeState() {
        for (String k : NEITHER) {
            run("restore: OUTSIDE", RICH).stays("restore(" + k + ")", OUTSIDE);
            run(FIRST, STIRRED).stays("restore(" + k + ")", OUTSIDE);
        }
    }

    static void restoreState() {
        run("restore: STATE", STIRRED).stays("restore(0)", STATE).stays("restore(1)", STATE);
    }

    static void count() {
        for (String what : new String[] {"-1", "7", "8", "9", "16", "19", "36", "39", "40", "45", "50", "min", "max"}) {
            run("count: OUTSIDE", RICH).stays("count(" + what + ")", OUTSIDE);
        }
    }

    /** Calls that only ask change nothing either: what they tell is as things are when it is asked. */
    static void askingChangesNothing() {
        run("All that is told is as things are when it is asked", RICH).stays("kept(2, 3, 1)", 27 + 33)
            .stays("lost(1, -1)", 4).stays("took(0, 1, 0, 0)", 8 - 110).stays("first(0, 1)", 1)
            .stays("apart(0, 3, 0)", 70).stays("tight(0, 1)", -2 - 95)
            .stays("truth(0, 1, 1, 0, 0)", 6 - 110 + 103 + 19).stays("count(5)", 3);
    }
}
