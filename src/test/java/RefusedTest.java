import java.util.ArrayList;
import java.util.List;

/**
 * "What is refused changes nothing": each call that can be refused, in each of several states, made of one of two
 * objects that were told the same; whatever is asked and told behind it, both must answer alike. The same is due
 * for calls that only ask.
 */
public final class RefusedTest extends Calls {
    private static final Check CHECK = new Check("RefusedTest");
    private static final int ACTS = 4;
    private static final int MARGIN = 7;
    private static final long LATER = 1000000;

    /** What an object was told, with how many rows and with what margin that leaves it. */
    private record State(String name, int rows, int margin, List<Call> calls) { }

    public static void main(String[] args) {
        List<State> states = List.of(new State("a new object", 0, 0, List.of()), toldAll("before a run"),
            toldAll("behind a run", run()), toldAll("behind a fit", fit(3)), behindLaterChanges(),
            fullOfRows(), fullOfPages(), fullOfCells());
        for (State state : states) {
            List<List<Call>> probes = probes(state);
            for (Call call : refusedBy(state)) {
                CHECK.due(state.name + ", " + call.text(), replay(state).answer(call), call.refusal());
                checkNothingChanged(state, call, probes);
            }
            for (Call call : questions(state)) {
                checkNothingChanged(state, call, probes);
            }
        }
        CHECK.end();
    }

    private static Track replay(State state) {
        return new Track(CHECK, state.name, ACTS).after(state.calls);
    }

    private static void checkNothingChanged(State state, Call call, List<List<Call>> probes) {
        for (List<Call> probe : probes) {
            Track with = replay(state).after(call);
            Track without = replay(state);
            for (Call next : probe) {
                long due = without.answer(next);
                CHECK.due(state.name + ", behind " + call.text() + " " + next.text(), with.answer(next), due);
            }
        }
    }

    private static State toldAll(String name, Call... last) {
        List<Call> calls = new ArrayList<>(List.of(move(0, 1, 20), move(1, 0, 30), move(0, 3, 15), move(3, 0, 9),
            move(2, 2, 4), speed(0, 0, 12), speed(1, 1, 5), speed(2, 2, 8), speed(3, 0, 11), speed(3, 2, 3)));
        for (int k = 0; k < 6; k++) {
            calls.add(row(10L * k, k % 3, k % 4));
            calls.add(ship(k / 2));
        }
        calls.addAll(List.of(truth(1, 3), truth(3, 0), truth(5, 3), page(0, 25, 1), page(20, 60, 2), margin(MARGIN),
            cell(1, 0, 0, 5), cell(5, 19, 19, 6), cell(3, 0, 0, 7), cell(2, 1, 1, 9)));
        calls.addAll(List.of(last));
        return new State(name, 6, MARGIN, calls);
    }

    /** Rows, costs and truths of now are others than those of the latest run, and than those of the latest fit. */
    private static State behindLaterChanges() {
        List<Call> calls = new ArrayList<>(toldAll("", fit(2), run()).calls);
        calls.addAll(List.of(row(100, 4, 2), truth(6, 3), truth(1, 1), speed(0, 0, 300), move(3, 0, 500), ship(7)));
        return new State("behind later changes", 7, MARGIN, calls);
    }

    private static State fullOfRows() {
        List<Call> calls = new ArrayList<>(List.of(speed(0, 1, 4), speed(1, 2, 5), margin(MARGIN)));
        for (int k = 0; k < 200; k++) {
            calls.add(row(k, k % 10, k % 4));
        }
        calls.addAll(List.of(truth(0, 3), run()));
        return new State("full of rows", 200, MARGIN, calls);
    }

    private static State fullOfPages() {
        List<Call> calls = new ArrayList<>(toldAll("", run()).calls);
        for (int i = 2; i < 50; i++) {
            calls.add(page(i, i + 3, i % ACTS));
        }
        return new State("full of pages", 6, MARGIN, calls);
    }

    private static State fullOfCells() {
        List<Call> calls = new ArrayList<>(List.of(row(0, 0, 2), truth(0, 3)));
        for (int i = 0; i < 300; i++) {
            calls.add(cell(0, i % 2, 0, 1 + i));
        }
        calls.add(run());
        return new State("full of cells", 1, 0, calls);
    }

    private static List<Call> refusedBy(State state) {
        List<Call> calls = new ArrayList<>();
        calls.addAll(refusedCosts());
        calls.addAll(refusedRowsAndTruths(state.rows));
        calls.addAll(refusedPagesAndCells());
        calls.addAll(refusedQuestions(state.rows));
        if (state.rows == 0) {
            calls.addAll(List.of(run(), fit(1), fit(20), truth(0, 0), cell(0, 0, 0, 1), night(0)));
        } else {
            calls.add(row(0, 0, 0));
        }
        if (state.rows == 200) {
            calls.addAll(List.of(row(LATER, 0, 0), row(200, 9, 3)));
        }
        if (state.name.equals("full of pages")) {
            calls.addAll(List.of(page(0, 100, 0), page(0, 1, 3)));
        }
        if (state.name.equals("full of cells")) {
            calls.addAll(List.of(cell(0, 0, 0, 1), cell(0, 5, 5, 1000000)));
        }
        return calls;
    }

    private static List<Call> refusedCosts() {
        return List.of(move(-1, 0, 5), move(4, 0, 5), move(0, -1, 5), move(0, 4, 5), move(1, 2, -1), move(1, 2, 10001),
            move(MIN, MAX, MIN), speed(-1, 0, 5), speed(4, 0, 5), speed(1, -1, 5), speed(1, 10, 5), speed(1, 1, -1),
            speed(1, 1, 10001), speed(MAX, MIN, MAX), margin(-1), margin(100001), margin(MIN), ship(-1), ship(10),
            ship(MAX), fit(0), fit(-1), fit(21), fit(MAX));
    }

    private static List<Call> refusedRowsAndTruths(int rows) {
        return List.of(row(-1, 0, 0), row(Long.MIN_VALUE, 0, 0), row(LATER, -1, 0), row(LATER, 10, 0),
            row(LATER, 0, -1), row(LATER, 0, 4), truth(-1, 0), truth(rows, 0), truth(0, -1), truth(0, 4),
            truth(MIN, 1), truth(MAX, 1));
    }

    private static List<Call> refusedPagesAndCells() {
        return List.of(page(0, 100, -1), page(0, 100, 4), page(-1, 100, 1), page(5, 5, 1), page(6, 5, 1),
            page(5, Long.MIN_VALUE, 1), cell(-1, 0, 0, 1), cell(200, 0, 0, 1), cell(0, -1, 0, 1), cell(0, 20, 0, 1),
            cell(0, 0, -1, 1), cell(0, 0, 20, 1), cell(0, 0, 0, 0), cell(0, 0, 0, 1000001),
            cell(0, 0, 0, Long.MAX_VALUE));
    }

    private static List<Call> refusedQuestions(int rows) {
        return List.of(act(-1), act(rows), sum(-1), sum(20), leftOut(-1), leftOut(10), leftOut(8), hours(-1), hours(4),
            haul(-1, 0), haul(0, 2), haul(0, -1), haul(101, 0), differs(-1, 0), differs(0, 2), differs(0, -1),
            differs(201, 0), unsure(-1), unsure(rows), map(-1, 0), map(20, 0), map(0, -1), map(0, 20), gear(-1),
            gear(101), tied(-1), tied(rows), night(-1), night(rows));
    }

    /** Calls that only ask, whatever they answer. */
    private static List<Call> questions(State state) {
        List<Call> calls = new ArrayList<>(List.of(greatest(), total()));
        for (int k = 0; k <= Math.min(state.rows, 8); k++) {
            calls.addAll(List.of(act(k), unsure(k), tied(k), night(k)));
        }
        for (int s = 0; s < 10; s++) {
            calls.add(leftOut(s));
        }
        for (int k = 0; k < ACTS; k++) {
            calls.addAll(List.of(sum(k), hours(k), gear(k), haul(k, 0), haul(k, 1), differs(k, 0), differs(k, 1)));
        }
        calls.addAll(List.of(sum(20), map(0, 0), map(1, 0), map(1, 1), map(5, 5), map(19, 19)));
        return calls;
    }

    /** Together these let all be seen that an object can hold. */
    private static List<List<Call>> probes(State state) {
        return List.of(questions(state), costsOfChanges(), costsOfActs(), shipOfTheNextRow(state), margin(state),
            roomForRows(), roomForPages(), roomForCells(state));
    }

    private static List<Call> moreRows() {
        List<Call> calls = new ArrayList<>();
        for (int i = 0; i < 10; i++) {
            calls.add(row(LATER / 2 + i, i, i % 4));
        }
        return calls;
    }

    private static List<Call> costsOfChanges() {
        List<Call> calls = moreRows();
        for (int from = 0; from < ACTS; from++) {
            for (int to = 0; to < ACTS; to++) {
                calls.addAll(List.of(truth(0, from), truth(1, to), run()));
            }
        }
        return calls;
    }

    private static List<Call> costsOfActs() {
        List<Call> calls = moreRows();
        for (int act = 0; act < ACTS; act++) {
            for (int k = 0; k < 17; k++) {
                calls.add(truth(k, act));
            }
            calls.add(run());
        }
        return calls;
    }

    private static List<Call> shipOfTheNextRow(State state) {
        List<Call> calls = new ArrayList<>(List.of(row(LATER / 2, 5, 0), truth(state.rows, 2)));
        for (int s = 0; s < 10; s++) {
            calls.add(leftOut(s));
        }
        return calls;
    }

    /** With changes that cost nothing, a row of class 9 has just the gap that acts 0 and 1 are told to have. */
    private static List<Call> margin(State state) {
        List<Call> calls = new ArrayList<>();
        for (int from = 0; from < ACTS; from++) {
            for (int to = 0; to < ACTS; to++) {
                calls.add(move(from, to, 0));
            }
        }
        calls.addAll(List.of(row(LATER / 2, 9, 0), speed(0, 9, 0), speed(2, 9, 10000), speed(3, 9, 10000)));
        int row = Math.min(state.rows, 199);
        for (int gap = state.margin; gap <= state.margin + 1; gap++) {
            calls.addAll(List.of(speed(1, 9, gap), run(), unsure(row)));
        }
        return calls;
    }

    private static List<Call> roomForRows() {
        List<Call> calls = new ArrayList<>();
        for (int i = 0; i < 201; i++) {
            calls.add(row(LATER / 2 + i, 0, 0));
        }
        return calls;
    }

    private static List<Call> roomForPages() {
        List<Call> calls = new ArrayList<>();
        for (int i = 0; i < 51; i++) {
            calls.add(page(i, 100, 2));
        }
        return calls;
    }

    private static List<Call> roomForCells(State state) {
        List<Call> calls = new ArrayList<>();
        int most = Math.min(301, Track.MOST_CALLS - 2 - state.calls.size());
        for (int i = 0; i < most; i++) {
            calls.add(cell(0, 3, 3, 1));
        }
        return calls;
    }
}
