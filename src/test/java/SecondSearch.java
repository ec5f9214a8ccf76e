import java.util.Arrays;

/** Finds best lines and fits costs in another way than the class does: from the first row on, with rows barred. */
final class SecondSearch {
    private static final int FAR = 100000000;

    final int acts;
    final int[] classes;
    final int[] truths;
    final int[][] changes;
    final int[][] speeds;

    SecondSearch(int acts, int rows) {
        this.acts = acts;
        classes = new int[rows];
        truths = new int[rows];
        Arrays.fill(truths, -1);
        changes = new int[acts][acts];
        speeds = new int[acts][10];
    }

    /** The least cost of the lines in which row k has the act kept[k], if that is not -1, and not barred[k]. */
    private int least(int[] kept, int[] barred) {
        int[] sofar = new int[acts];
        for (int k = 0; k < classes.length; k++) {
            int[] now = new int[acts];
            for (int b = 0; b < acts; b++) {
                now[b] = FAR;
                for (int a = 0; a < acts; a++) {
                    now[b] = Math.min(now[b], sofar[a] + (k == 0 ? 0 : changes[a][b]));
                }
                boolean allowed = (kept[k] == -1 || kept[k] == b) && barred[k] != b;
                now[b] = allowed ? now[b] + speeds[b][classes[k]] : FAR;
            }
            sofar = now;
        }
        return Arrays.stream(sofar).min().getAsInt();
    }

    private int[] noneBarred() {
        int[] barred = new int[classes.length];
        Arrays.fill(barred, -1);
        return barred;
    }

    int cost() {
        return least(truths, noneBarred());
    }

    /** Tries for each row, from the first one on, the lesser acts first. */
    int[] line() {
        int[] barred = noneBarred();
        int best = least(truths, barred);
        int[] line = truths.clone();
        for (int k = 0; k < line.length; k++) {
            for (int a = 0; line[k] == -1; a++) {
                line[k] = a;
                if (least(line, barred) != best) {
                    line[k] = -1;
                }
            }
        }
        return line;
    }

    /** By how much the next cost of a row is above the best one; -1 when there is none. */
    int above(int k, int[] line) {
        if (truths[k] != -1 || acts == 1) {
            return -1;
        }
        int[] barred = noneBarred();
        barred[k] = line[k];
        return least(truths, barred) - cost();
    }

    void fitCosts(int[] line) {
        for (int a = 0; a < acts; a++) {
            int[] from = new int[acts];
            int[] having = new int[10];
            for (int k = 0; k < line.length; k++) {
                if (line[k] == a) {
                    having[classes[k]]++;
                }
                if (k > 0 && line[k - 1] == a) {
                    from[line[k]]++;
                }
            }
            share(from, changes[a]);
            share(having, speeds[a]);
        }
    }

    private static void share(int[] counted, int[] costs) {
        int all = Arrays.stream(counted).sum();
        for (int i = 0; i < costs.length && all > 0; i++) {
            costs[i] = 1000 * (all - counted[i]) / all;
        }
    }
}
