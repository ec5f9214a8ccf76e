import java.util.Arrays;
import java.util.Random;

/** Up to 200 rows and 12 acts, against a search from the first row on; and odd arguments in odd states. */
public final class LongTracksTest {
    private static final Check CHECK = new Check("LongTracksTest");
    private static final int FAR = 100000000;

    private final ActChains x;
    private final int acts;
    private final int[] classes;
    private final int[] truths;
    private final int[][] changes;
    private final int[][] speeds;

    private LongTracksTest(int acts, int rows, int mostCost, Random random) {
        this.acts = acts;
        x = new ActChains(acts);
        classes = new int[rows];
        truths = new int[rows];
        changes = new int[acts][acts];
        speeds = new int[acts][10];
        tellCosts(mostCost, random);
        for (int k = 0; k < rows; k++) {
            classes[k] = random.nextInt(10);
            x.row(k, classes[k], 0);
            truths[k] = -1;
            if (random.nextInt(20) == 0) {
                truths[k] = random.nextInt(acts);
                x.truth(k, truths[k]);
            }
        }
    }

    private void tellCosts(int mostCost, Random random) {
        for (int a = 0; a < acts; a++) {
            for (int b = 0; b < acts; b++) {
                changes[a][b] = random.nextInt(mostCost + 1);
                x.move(a, b, changes[a][b]);
            }
            for (int c = 0; c < 10; c++) {
                speeds[a][c] = random.nextInt(mostCost + 1);
                x.speed(a, c, speeds[a][c]);
            }
        }
    }

    public static void main(String[] args) {
        int[][] sizes = {{12, 200, 10000}, {12, 200, 1}, {3, 200, 2}, {5, 120, 10000}, {2, 200, 1}};
        for (int i = 0; i < sizes.length; i++) {
            new LongTracksTest(sizes[i][0], sizes[i][1], sizes[i][2], new Random(i)).compare();
        }
        leftOutOfAllRows();
        oddCallsEnd();
        CHECK.end();
    }

    /** The least cost of the lines that are allowed: kept[k] is row k's act if not -1, and barred[k] is not. */
    private int least(int[] kept, int[] barred) {
        int[] sofar = new int[acts];
        for (int k = 0; k < classes.length; k++) {
            int[] now = new int[acts];
            for (int b = 0; b < acts; b++) {
                now[b] = FAR;
                for (int a = 0; a < acts; a++) {
                    now[b] = Math.min(now[b], sofar[a] + (k == 0 ? 0 : changes[a][b]));
                }
                boolean allowed = (kept[k] == -1 || kept[k] == b) && barred[k] != b;
                now[b] = allowed ? now[b] + speeds[b][classes[k]] : FAR;
            }
            sofar = now;
        }
        int least = FAR;
        for (int a = 0; a < acts; a++) {
            least = Math.min(least, sofar[a]);
        }
        return least;
    }

    private void compare() {
        int[] barred = new int[classes.length];
        Arrays.fill(barred, -1);
        int best = least(truths, barred);
        CHECK.due("run()", x.run(), best);
        int[] line = truths.clone();
        for (int k = 0; k < line.length; k++) {
            for (int a = 0; line[k] == -1; a++) {
                line[k] = a;
                if (least(line, barred) != best) {
                    line[k] = -1;
                }
            }
            CHECK.due("act(" + k + ")", x.act(k), line[k]);
        }
        for (int k = 0; k < line.length; k++) {
            barred[k] = line[k];
            checkNextCost(k, truths[k] == -1 ? least(truths, barred) - best : -1);
            barred[k] = -1;
        }
    }

    private void checkNextCost(int k, int above) {
        CHECK.due("tied(" + k + ")", x.tied(k) ? 1 : 0, above == 0 ? 1 : 0);
        x.margin(above < 0 ? 100000 : above);
        CHECK.due("unsure(" + k + ") by " + above, x.unsure(k) ? 1 : 0, above >= 0 ? 1 : 0);
        if (above > 0) {
            x.margin(above - 1);
            CHECK.no("unsure(" + k + ") by less than " + above, x.unsure(k));
        }
    }

    /** Every row has a truth, each third one an act that costs more than another one. */
    private static void leftOutOfAllRows() {
        ActChains x = new ActChains(12);
        x.speed(11, 4, 1);
        for (int k = 0; k < 200; k++) {
            x.row(k, 4, 0);
            x.truth(k, k % 3 == 0 ? 11 : 0);
        }
        CHECK.due("leftOut(0) of 200 rows", x.leftOut(0), 67 * 1000 / 200);
        CHECK.due("run() of 200 truths", x.run(), 67);
        CHECK.due("fit(20) of 200 truths", x.fit(20), 0);
        CHECK.due("sum(0)", x.sum(0), 67);
    }

    /** Whatever is asked whenever, nothing is thrown: main would end with the exception. */
    private static void oddCallsEnd() {
        int[] odd = {Integer.MIN_VALUE, -1, 0, 1, 3, 4, 9, 10, 11, 12, 19, 20, 21, 199, 200, Integer.MAX_VALUE};
        for (int acts : new int[] {1, 4, 12}) {
            ActChains x = new ActChains(acts);
            for (int state = 0; state < 4; state++) {
                for (int a : odd) {
                    for (int b : odd) {
                        askAll(x, a, b);
                    }
                }
                x.row(state * 1000L, state, state);
                x.truth(state, 3);
                x.run();
            }
            CHECK.yes("greatest() of " + acts + " acts", x.greatest());
        }
    }

    private static void askAll(ActChains x, int a, int b) {
        x.move(a, b, b);
        x.speed(a, b, b);
        x.row(-1L - Math.abs((long) a), b, a);
        x.act(a);
        x.truth(a, b);
        x.fit(a);
        x.sum(a);
        x.leftOut(a);
        x.hours(a);
        x.haul(a, b);
        x.differs(a, b);
        x.page(a, b, a);
        x.unsure(a);
        x.margin(a);
        x.map(a, b);
        x.cell(a, b, a, b);
        x.gear(a);
        x.ship(a);
        x.total();
        x.tied(a);
        x.night(a);
    }
}
