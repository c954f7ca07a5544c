import java.util.ArrayList;
import java.util.List;

/** One sentence of the document, tried by calls on a room of its own. */
final class Told {
    private static final int LEAST = Integer.MIN_VALUE;
    private static final int MOST = Integer.MAX_VALUE;
    static final int CALLS_PROMISED = 512;

    private final Due due;
    private final String sentence;
    private final PlateRoom room = new PlateRoom();
    private final List<Call> calls = new ArrayList<>();
    /** What could be seen behind the last call, if that has been looked at. */
    private long[] seen = null;

    Told(Due due, String sentence) {
        this.due = due;
        this.sentence = sentence;
    }

    private long ask(Call call) {
        calls.add(call);
        if (calls.size() > CALLS_PROMISED) {
            throw new IllegalStateException(sentence + " nothing is promised behind call " + CALLS_PROMISED);
        }
        return call.on(room);
    }

    void due(String text, long want) {
        Call call = Call.of(text);
        seen = null;
        due.is(sentence + " " + call, ask(call), want);
    }

    /** Calls that build what the sentence is about; none may be refused. */
    void given(String... texts) {
        for (String text : texts) {
            Call call = Call.of(text);
            seen = null;
            long answer = ask(call);
            due.is(sentence + " " + call + " is not refused", answer >= 0 || answer == PlateRoom.NONE ? 1 : 0, 1);
        }
    }

    /** A call that is refused by this answer, and behind which nothing has changed. */
    void refused(String text, long want) {
        Call call = Call.of(text);
        long[] before = seen == null ? Everything.behind(calls) : seen;
        due.is(sentence + " " + call, ask(call), want);
        seen = Everything.behind(calls);
        for (int i = 0; i < before.length; i++) {
            due.is(sentence + " " + Everything.name(i) + " behind " + call, seen[i], before[i]);
        }
    }

    /**
     * The number in the place of the X may be from least to greatest: one beyond each, and the farthest
     * numbers, are refused. That the least and the greatest are allowed, the test itself tries.
     */
    void refusedBeyond(String text, int least, int greatest, long want) {
        for (int v : new int[] {least - 1, greatest + 1, LEAST, MOST}) {
            refused(text.replace("X", Integer.toString(v)), want);
        }
    }
}
