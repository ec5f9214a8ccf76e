import java.util.ArrayList;
import java.util.Arrays;
import java.util.List;

/** The document again, by going through all lines one after the other: only for few rows and acts. */
final class PlainModel {
    private static final class Row {
        long second;
        int cls;
        int turn;
        int ship;
        int truth = -1;
    }

    private record Page(long from, long to, int act) { }

    private record Cell(int row, int x, int y, long seconds) { }

    private record Span(int first, int last) { }

    /** What a run found; next holds -1 where there is no next cost. */
    private record Found(int[] line, int cost, int[] next) { }

    private final int acts;
    private int[][] changes;
    private int[][] speeds;
    private final List<Row> rows = new ArrayList<>();
    private final List<Page> pages = new ArrayList<>();
    private final List<Cell> cells = new ArrayList<>();
    private List<Integer> sums = List.of();
    private Found latest;
    private int ship;
    private int margin;

    PlainModel(int acts) {
        this.acts = acts < 1 ? 1 : acts > 12 ? 12 : acts;
        changes = new int[this.acts][this.acts];
        speeds = new int[this.acts][10];
    }

    private static boolean in(long v, long low, long high) {
        return low <= v && v <= high;
    }

    private boolean noAct(int a) {
        return !in(a, 0, acts - 1);
    }

    private boolean noRow(int k) {
        return !in(k, 0, rows.size() - 1);
    }

    private boolean notInRun(int k) {
        return latest == null || !in(k, 0, latest.line.length - 1);
    }

    boolean move(int from, int to, int cost) {
        if (noAct(from) || noAct(to) || !in(cost, 0, 10000)) return false;
        changes[from][to] = cost;
        return true;
    }

    boolean speed(int act, int cls, int cost) {
        if (noAct(act) || !in(cls, 0, 9) || !in(cost, 0, 10000)) return false;
        speeds[act][cls] = cost;
        return true;
    }

    boolean row(long second, int cls, int turn) {
        if (rows.size() == 200 || second < 0 || !in(cls, 0, 9) || !in(turn, 0, 3)) return false;
        if (!rows.isEmpty() && second <= rows.get(rows.size() - 1).second) return false;
        Row row = new Row();
        row.second = second;
        row.cls = cls;
        row.turn = turn;
        row.ship = ship;
        rows.add(row);
        return true;
    }

    private boolean isTrue(int[] line) {
        for (int k = 0; k < line.length; k++) {
            if (rows.get(k).truth != -1 && rows.get(k).truth != line[k]) return false;
        }
        return true;
    }

    private int costOf(int[] line) {
        int cost = 0;
        for (int k = 0; k < line.length; k++) {
            cost += speeds[line[k]][rows.get(k).cls];
            if (k > 0) cost += changes[line[k - 1]][line[k]];
        }
        return cost;
    }

    /** The line behind this one in the order of the document, or false behind the last. */
    private boolean step(int[] line) {
        for (int k = line.length - 1; k >= 0; k--) {
            if (++line[k] < acts) return true;
            line[k] = 0;
        }
        return false;
    }

    private Found find() {
        int[] line = new int[rows.size()];
        int[] best = null;
        int least = 0;
        int[][] leastWith = new int[rows.size()][acts];
        for (int[] of : leastWith) Arrays.fill(of, Integer.MAX_VALUE);
        do {
            if (!isTrue(line)) continue;
            int cost = costOf(line);
            if (best == null || cost < least) {
                best = line.clone();
                least = cost;
            }
            for (int k = 0; k < line.length; k++) leastWith[k][line[k]] = Math.min(leastWith[k][line[k]], cost);
        } while (step(line));
        int[] next = new int[rows.size()];
        for (int k = 0; k < next.length; k++) {
            leastWith[k][best[k]] = Integer.MAX_VALUE;
            int other = Arrays.stream(leastWith[k]).min().getAsInt();
            next[k] = other == Integer.MAX_VALUE ? -1 : other;
        }
        return new Found(best, least, next);
    }

    int run() {
        if (rows.isEmpty()) return -1;
        latest = find();
        return latest.cost;
    }

    int act(int k) {
        return notInRun(k) ? -1 : latest.line[k];
    }

    boolean greatest() {
        return latest != null;
    }

    boolean truth(int k, int act2) {
        if (noRow(k) || noAct(act2)) return false;
        rows.get(k).truth = act2;
        return true;
    }

    private static int[][] copy(int[][] of) {
        int[][] copy = of.clone();
        for (int i = 0; i < of.length; i++) copy[i] = of[i].clone();
        return copy;
    }

    int fit(int rounds) {
        if (!in(rounds, 1, 20) || rows.isEmpty()) return -1;
        run();
        sums = new ArrayList<>(List.of(latest.cost));
        while (sums.size() <= rounds) {
            int[][] oldChanges = copy(changes);
            int[][] oldSpeeds = copy(speeds);
            fitCosts(latest.line);
            Found found = find();
            if (found.cost >= latest.cost) {
                changes = oldChanges;
                speeds = oldSpeeds;
                break;
            }
            latest = found;
            sums.add(found.cost);
        }
        return sums.size() - 1;
    }

    private void fitCosts(int[] line) {
        for (int a = 0; a < acts; a++) {
            int from = 0;
            int having = 0;
            for (int k = 0; k < line.length; k++) {
                if (line[k] == a) having++;
                if (line[k] == a && k + 1 < line.length) from++;
            }
            for (int b = 0; b < acts && from > 0; b++) {
                int n = 0;
                for (int k = 0; k + 1 < line.length; k++) if (line[k] == a && line[k + 1] == b) n++;
                changes[a][b] = 1000 * (from - n) / from;
            }
            for (int c = 0; c < 10 && having > 0; c++) {
                int n = 0;
                for (int k = 0; k < line.length; k++) if (line[k] == a && rows.get(k).cls == c) n++;
                speeds[a][c] = 1000 * (having - n) / having;
            }
        }
    }

    long sum(int round) {
        return in(round, 0, sums.size() - 1) ? sums.get(round) : -1;
    }

    int leftOut(int ship) {
        List<Integer> kept = new ArrayList<>();
        int known = 0;
        for (Row row : rows) {
            kept.add(row.truth);
            if (row.ship == ship && row.truth != -1) {
                row.truth = -1;
                known++;
            }
        }
        int[] line = known == 0 ? null : find().line;
        int missed = 0;
        for (int k = 0; k < rows.size(); k++) {
            Row row = rows.get(k);
            if (row.truth != kept.get(k) && line[k] != kept.get(k)) missed++;
            row.truth = kept.get(k);
        }
        return known == 0 ? -1 : missed * 1000 / known;
    }

    private long endOf(int k) {
        return rows.get(k + 1 < latest.line.length ? k + 1 : k).second;
    }

    long hours(int act3) {
        if (noAct(act3) || latest == null) return -1;
        long all = 0;
        for (int k = 0; k < latest.line.length; k++) {
            if (latest.line[k] == act3) all += endOf(k) - rows.get(k).second;
        }
        return all;
    }

    private List<Span> hauls() {
        List<Span> hauls = new ArrayList<>();
        if (latest == null) return hauls;
        int k = 0;
        while (k < latest.line.length) {
            int first = k;
            while (k < latest.line.length && latest.line[k] == 3) k++;
            if (k > first) hauls.add(new Span(first, k - 1));
            k++;
        }
        return hauls;
    }

    int haul(int k, int end) {
        List<Span> hauls = hauls();
        if (!in(k, 0, hauls.size() - 1) || !in(end, 0, 1)) return -1;
        long second = end == 0 ? rows.get(hauls.get(k).first).second : endOf(hauls.get(k).last);
        return second > Integer.MAX_VALUE ? -1 : (int) second;
    }

    int differs(int k, int what) {
        List<int[]> found = new ArrayList<>();
        for (int r = 0; latest != null && r < latest.line.length; r++) {
            int told = -1;
            for (Page page : pages) {
                if (in(rows.get(r).second, page.from, page.to - 1)) told = page.act;
            }
            if (told != -1 && told != latest.line[r]) found.add(new int[] {r, told});
        }
        return in(k, 0, found.size() - 1) && in(what, 0, 1) ? found.get(k)[what] : -1;
    }

    boolean page(long from, long to, int act4) {
        if (noAct(act4) || from < 0 || to <= from || pages.size() == 50) return false;
        return pages.add(new Page(from, to, act4));
    }

    boolean unsure(int k) {
        return !notInRun(k) && latest.next[k] != -1 && latest.next[k] <= latest.cost + margin;
    }

    boolean margin(int v) {
        if (!in(v, 0, 100000)) return false;
        margin = v;
        return true;
    }

    long map(int x, int y) {
        if (!in(x, 0, 19) || !in(y, 0, 19) || latest == null) return -1;
        long all = 0;
        for (Cell cell : cells) {
            if (cell.x == x && cell.y == y && act(cell.row) == 3) all += cell.seconds;
        }
        return all;
    }

    boolean cell(int k, int x, int y, long seconds) {
        if (noRow(k) || !in(x, 0, 19) || !in(y, 0, 19) || !in(seconds, 1, 1000000) || cells.size() == 300) return false;
        return cells.add(new Cell(k, x, y, seconds));
    }

    int gear(int k) {
        List<Span> hauls = hauls();
        if (!in(k, 0, hauls.size() - 1)) return -1;
        Span haul = hauls.get(k);
        int balance = 0;
        for (int r = haul.first; r <= haul.last; r++) balance += rows.get(r).turn >= 2 ? 1 : -1;
        return balance > 0 ? 1 : 0;
    }

    boolean ship(int s) {
        if (!in(s, 0, 9)) return false;
        ship = s;
        return true;
    }

    long total() {
        if (latest == null) return -1;
        long all = 0;
        for (int a = 0; a < acts; a++) all += hours(a);
        return all;
    }

    boolean tied(int k2) {
        return !notInRun(k2) && latest.next[k2] == latest.cost;
    }

    int night(int k) {
        if (noRow(k)) return -1;
        long hour = rows.get(k).second / 3600 % 24;
        return hour < 6 || hour >= 18 ? 1 : 0;
    }
}
