import java.util.ArrayList;
import java.util.List;

/**
 * "An object is used for at most 512 calls": the answers hold up to the 512th, for the dearest calls too,
 * and objects that are used in turns do not touch one another.
 */
public final class ManyCallsTest extends Calls {
    private static final Check CHECK = new Check("ManyCallsTest");

    public static void main(String[] args) {
        allCostsAndAllRows();
        manyRuns();
        manyFits();
        manyLeftOut();
        manyRefusals();
        objectsInTurns();
        CHECK.end();
    }

    private static Track rows(String about, int acts, int count) {
        Track x = new Track(CHECK, about, acts);
        for (int k = 0; k < count; k++) {
            x.yes(row(k, k % 10, k % 4));
        }
        return x;
    }

    private static boolean isAtEnd(Track x) {
        return x.calls() >= Track.MOST_CALLS;
    }

    /** 200 rows, 144 changes, 120 acts for classes, and truths up to the last call but one. */
    private static void allCostsAndAllRows() {
        Track x = rows("all costs", 12, 200);
        for (int a = 0; a < 12; a++) {
            for (int b = 0; b < 12; b++) {
                x.yes(move(a, b, a == b ? 3 : 10000));
            }
            for (int c = 0; c < 10; c++) {
                x.yes(speed(a, c, a == 11 ? 5 : 7));
            }
        }
        for (int k = 0; x.calls() < Track.MOST_CALLS - 1; k++) {
            x.yes(truth(k, 11));
        }
        x.due(200 * 5 + 199 * 3, run());
        CHECK.due("calls", x.calls(), Track.MOST_CALLS);
    }

    private static void manyRuns() {
        Track x = rows("many runs", 12, 200).yes(speed(0, 0, 9));
        while (!isAtEnd(x)) {
            x.due(0, run());
        }
    }

    /** Fitted, each of the ten classes costs 900; the change to itself costs nothing. */
    private static void manyFits() {
        Track x = rows("many fits", 12, 200);
        for (int c = 0; c < 10; c++) {
            for (int a = 0; a < 12; a++) {
                x.yes(speed(a, c, a == 4 ? 9999 : 10000));
            }
        }
        x.due(1, fit(20)).due(200 * 9999, sum(0)).due(200 * 900, sum(1));
        while (!isAtEnd(x)) {
            x.due(0, fit(20));
        }
    }

    private static void manyLeftOut() {
        Track x = rows("many truths left out", 12, 200).yes(truth(7, 0), truth(190, 11));
        while (!isAtEnd(x)) {
            x.due(500, leftOut(0));
        }
    }

    private static void manyRefusals() {
        Track x = new Track(CHECK, "many refusals", 12);
        for (int i = 0; i < 127; i++) {
            x.none(run()).no(row(5, 10, 0), truth(0, 0)).none(fit(1));
        }
        x.yes(row(5, 9, 0), speed(0, 9, 3), truth(0, 0)).due(3, run());
    }

    private static void objectsInTurns() {
        List<Track> all = new ArrayList<>();
        for (int i = 0; i < 20; i++) {
            all.add(new Track(CHECK, "object " + i, 4));
        }
        for (int k = 0; k < 20; k++) {
            for (int i = 0; i < all.size(); i++) {
                all.get(i).yes(row(k * (i + 1L), 0, 0), truth(k, i % 4), speed(i % 4, 0, i), margin(i), ship(i % 10));
            }
        }
        for (int i = 0; i < all.size(); i++) {
            all.get(i).due(20 * i, run()).due(19 * (i + 1), total(), hours(i % 4)).due(i % 4, act(19));
        }
    }
}
