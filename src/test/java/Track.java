import java.util.List;

/** A new object whose answers are checked, and which is never used for more calls than the document allows. */
final class Track {
    static final int MOST_CALLS = 512;

    private final Check check;
    private final String about;
    private final ActChains x;
    private int calls;

    Track(Check check, String about, int acts) {
        this.check = check;
        this.about = about;
        x = new ActChains(acts);
    }

    int calls() {
        return calls;
    }

    long answer(Call call) {
        calls++;
        if (calls > MOST_CALLS) {
            throw new IllegalStateException(about + ": more calls than the document speaks of");
        }
        return call.of(x);
    }

    Track due(long want, Call... all) {
        for (Call call : all) {
            long got = answer(call);
            check.due(about + ", call " + calls + ", " + call.text(), got, want);
        }
        return this;
    }

    Track yes(Call... all) {
        return due(1, all);
    }

    Track no(Call... all) {
        return due(0, all);
    }

    Track none(Call... all) {
        return due(ActChains.NONE, all);
    }

    /** For calls whose answers are not what the test is about. */
    Track after(Call... all) {
        return after(List.of(all));
    }

    Track after(List<Call> all) {
        for (Call call : all) {
            answer(call);
        }
        return this;
    }
}
