import java.util.ArrayList;
import java.util.List;
import java.util.Random;

/** Up to 200 rows and 12 acts, against a search from the first row on; and odd arguments in odd states. */
public final class LongTracksTest extends Calls {
    private static final Check CHECK = new Check("LongTracksTest");

    public static void main(String[] args) {
        int[][] sizes = {{12, 200, 10000}, {12, 200, 1}, {3, 200, 2}, {5, 120, 10000}, {2, 200, 1}};
        for (int i = 0; i < sizes.length; i++) {
            compare(searchOf(sizes[i][0], sizes[i][1], sizes[i][2], new Random(i)));
        }
        leftOutOfAllRows();
        oddCallsEnd();
        CHECK.end();
    }

    private static SecondSearch searchOf(int acts, int rows, int mostCost, Random random) {
        SecondSearch search = new SecondSearch(acts, rows);
        for (int a = 0; a < acts; a++) {
            for (int b = 0; b < acts; b++) {
                search.changes[a][b] = random.nextInt(mostCost + 1);
            }
            for (int c = 0; c < 10; c++) {
                search.speeds[a][c] = random.nextInt(mostCost + 1);
            }
        }
        for (int k = 0; k < rows; k++) {
            search.classes[k] = random.nextInt(10);
            search.truths[k] = random.nextInt(20) == 0 ? random.nextInt(acts) : -1;
        }
        return search;
    }

    /** The questions are more than one object may be asked: each new one is told all again. */
    private static void compare(SecondSearch search) {
        List<Call> telling = telling(search);
        int[] line = search.line();
        int cost = search.cost();
        Track x = null;
        for (int k = 0; k < line.length; k++) {
            if (x == null || x.calls() > Track.MOST_CALLS - 6) {
                x = new Track(CHECK, search.acts + " acts", search.acts).after(telling).due(cost, run());
            }
            x.due(line[k], act(k));
            checkNextCost(x, k, search.above(k, line));
        }
    }

    private static List<Call> telling(SecondSearch search) {
        List<Call> telling = new ArrayList<>();
        for (int a = 0; a < search.acts; a++) {
            for (int b = 0; b < search.acts; b++) {
                telling.add(move(a, b, search.changes[a][b]));
            }
            for (int c = 0; c < 10; c++) {
                telling.add(speed(a, c, search.speeds[a][c]));
            }
        }
        for (int k = 0; k < search.classes.length; k++) {
            telling.add(row(k, search.classes[k], 0));
            if (search.truths[k] != -1) {
                telling.add(truth(k, search.truths[k]));
            }
        }
        return telling;
    }

    private static void checkNextCost(Track x, int k, int above) {
        x.due(above == 0 ? 1 : 0, tied(k));
        x.after(margin(above < 0 ? 100000 : above)).due(above < 0 ? 0 : 1, unsure(k));
        if (above > 0) {
            x.after(margin(above - 1)).no(unsure(k));
        }
    }

    /** Every row has a truth, each third one an act that costs more than another one. */
    private static void leftOutOfAllRows() {
        Track x = new Track(CHECK, "200 truths", 12).after(speed(11, 4, 1));
        for (int k = 0; k < 200; k++) {
            x.after(row(k, 4, 0), truth(k, k % 3 == 0 ? 11 : 0));
        }
        x.due(67 * 1000 / 200, leftOut(0)).due(67, run()).due(0, fit(20)).due(67, sum(0));
    }

    /** Whatever is asked whenever, nothing is thrown: main would end with the exception. */
    private static void oddCallsEnd() {
        int[] odd = {Integer.MIN_VALUE, -1, 0, 1, 3, 4, 9, 10, 11, 12, 19, 20, 21, 199, 200, Integer.MAX_VALUE};
        for (int acts : new int[] {1, 4, 12}) {
            ActChains x = new ActChains(acts);
            for (int state = 0; state < 4; state++) {
                for (int a : odd) {
                    for (int b : odd) {
                        askAll(x, a, b);
                    }
                }
                x.row(state * 1000L, state, state);
                x.truth(state, 3);
                x.run();
            }
            CHECK.yes("greatest() of " + acts + " acts", x.greatest());
        }
    }

    private static void askAll(ActChains x, int a, int b) {
        x.move(a, b, b);
        x.speed(a, b, b);
        x.row(-1L - Math.abs((long) a), b, a);
        x.act(a);
        x.truth(a, b);
        x.fit(a);
        x.sum(a);
        x.leftOut(a);
        x.hours(a);
        x.haul(a, b);
        x.differs(a, b);
        x.page(a, b, a);
        x.unsure(a);
        x.margin(a);
        x.map(a, b);
        x.cell(a, b, a, b);
        x.gear(a);
        x.ship(a);
        x.total();
        x.tied(a);
        x.night(a);
    }
}
