import java.util.ArrayList;
import java.util.Arrays;
import java.util.List;

/** One object under test, with the sentence of the document that is looked at. */
final class Run {
    /** The document promises nothing of later calls, so no test may ask for any. */
    static final int MOST_CALLS = 512;

    private final Due due;
    private final String sentence;
    private final List<String> calls = new ArrayList<>();
    private final PathSounder x = new PathSounder();

    Run(Due due, String sentence, String... before) {
        this.due = due;
        this.sentence = sentence;
        after(before);
    }

    /** Calls that only lead to what is looked at: none of them may be refused. */
    Run after(String... before) {
        for (String call : before) {
            int got = make(call);
            boolean taken = call.startsWith("clock(") ? got >= -99 : got >= 0;
            if (!taken) {
                due.due(sentence + ": " + call + " on the way is taken", got, 0);
            }
        }
        return this;
    }

    Run due(String call, int want) {
        due.due(sentence + ": " + call, make(call), want);
        return this;
    }

    /** The answer is as due, and all that the object tells, now and later, stays as it was. */
    Run stays(String call, int want) {
        int[] was = Whole.after(calls);
        due(call, want);
        dueAlike(call + " changes nothing", Whole.after(calls), was);
        return this;
    }

    /** All that the object tells, now and later, is what the other one tells. */
    Run sameAs(Run other) {
        dueAlike("the same as after " + other.calls, Whole.after(calls), Whole.after(other.calls));
        return this;
    }

    private void dueAlike(String what, int[] got, int[] want) {
        int at = Arrays.mismatch(got, want);
        due.due(sentence + ": " + what + (at < 0 ? "" : ", " + Whole.nameOf(at)), at < 0 ? 0 : got[at],
            at < 0 ? 0 : want[at]);
    }

    private int make(String call) {
        if (calls.size() >= MOST_CALLS) {
            throw new IllegalStateException("more than " + MOST_CALLS + " calls: " + sentence);
        }
        calls.add(call);
        return Call.of(call).on(x);
    }
}
