import java.util.Arrays;

/**
 * What ships do, told from their tracks: the row of acts with the least cost, and what follows from it.
 * No call throws: what is refused answers false or NONE and changes nothing.
 */
public final class ActChains {
    public static final int NONE = -1;

    private static final int MOST_ACTS = 12;
    private static final int CLASSES = 10;
    private static final int TURNS = 4;
    private static final int SHIPS = 10;
    private static final int MAP_SIDE = 20;
    private static final int MOST_ROWS = 200;
    private static final int MOST_PAGES = 50;
    private static final int MOST_CELLS = 300;
    private static final int MOST_ROUNDS = 20;
    private static final int MOST_COST = 10000;
    private static final int MOST_MARGIN = 100000;
    private static final int MOST_CELL_SECONDS = 1000000;
    /** 2^31 - 1. */
    private static final int LAST_HAUL_SECOND = 2147483647;

    private static final int HAULING = 3;
    private static final int FIRST_HAULING_TURN = 2;

    private static final int DAY = 86400;
    private static final int DAWN = 21600;
    private static final int DUSK = 64800;

    private final int acts;
    private final Tracks tracks;
    private final Table costs;
    private final Table fitted;
    private final Table counts;
    private final LineFinder finder;
    private final LatestRun latest;
    private final Pages pages;
    private final Cells cells;
    private final long[] sums;
    private int keptRounds;
    private int shipNow;
    private int marginNow;

    public ActChains(int acts) {
        this.acts = Math.max(1, Math.min(acts, MOST_ACTS));
        this.tracks = new Tracks();
        this.costs = new Table(this.acts);
        this.fitted = new Table(this.acts);
        this.counts = new Table(this.acts);
        this.finder = new LineFinder(this.acts);
        this.latest = new LatestRun();
        this.pages = new Pages();
        this.cells = new Cells();
        this.sums = new long[MOST_ROUNDS + 1];
        this.keptRounds = NONE;
        this.shipNow = 0;
        this.marginNow = 0;
    }

    public boolean move(int from, int to, int cost) {
        if (!isAct(from) || !isAct(to) || !isCost(cost)) {
            return false;
        }
        costs.changes[from][to] = cost;
        return true;
    }

    public boolean speed(int act, int cls, int cost) {
        if (!isAct(act) || !isBelow(cls, CLASSES) || !isCost(cost)) {
            return false;
        }
        costs.speeds[act][cls] = cost;
        return true;
    }

    public boolean row(long second, int cls, int turn) {
        if (!tracks.canFollow(second) || !isBelow(cls, CLASSES) || !isBelow(turn, TURNS)) {
            return false;
        }
        tracks.add(second, cls, turn, shipNow);
        return true;
    }

    public int run() {
        if (tracks.count == 0) {
            return NONE;
        }
        finder.find(tracks, costs, NONE);
        latest.takeOver(tracks, costs, finder);
        return latest.cost;
    }

    public int act(int k) {
        return latest.has(k) ? latest.line[k] : NONE;
    }

    public boolean greatest() {
        return latest.exists();
    }

    public boolean truth(int k, int act2) {
        if (!isBelow(k, tracks.count) || !isAct(act2)) {
            return false;
        }
        tracks.truths[k] = act2;
        return true;
    }

    public int fit(int rounds) {
        if (rounds < 1 || rounds > MOST_ROUNDS || tracks.count == 0) {
            return NONE;
        }
        sums[0] = run();
        keptRounds = 0;
        for (int round = 1; round <= rounds && isRoundKept(); round++) {
            sums[round] = latest.cost;
            keptRounds = round;
        }
        return keptRounds;
    }

    public long sum(int round) {
        return round >= 0 && round <= keptRounds ? sums[round] : NONE;
    }

    public int leftOut(int ship) {
        int known = tracks.truthsOf(ship);
        if (known == 0) {
            return NONE;
        }
        finder.find(tracks, costs, ship);
        return 1000 * tracks.truthsMissed(ship, finder.line) / known;
    }

    public long hours(int act3) {
        return isAct(act3) && latest.exists() ? latest.secondsOf(act3, tracks.seconds) : NONE;
    }

    public int haul(int k, int end) {
        int first = latest.haulStart(k);
        if (first == NONE || !isBelow(end, 2)) {
            return NONE;
        }
        long second = end == 0 ? tracks.seconds[first] : latest.endOf(latest.haulLast(first), tracks.seconds);
        return second <= LAST_HAUL_SECOND ? (int) second : NONE;
    }

    public int differs(int k, int what) {
        int row = differingRow(k);
        if (row == NONE || !isBelow(what, 2)) {
            return NONE;
        }
        return what == 0 ? row : pages.actAt(tracks.seconds[row]);
    }

    public boolean page(long from, long to, int act4) {
        if (!isAct(act4) || from < 0 || from >= to || pages.count >= MOST_PAGES) {
            return false;
        }
        pages.add(from, to, act4);
        return true;
    }

    public boolean unsure(int k) {
        return latest.hasNextCost(k) && latest.nextCosts[k] - latest.cost <= marginNow;
    }

    public boolean margin(int v) {
        if (v < 0 || v > MOST_MARGIN) {
            return false;
        }
        marginNow = v;
        return true;
    }

    public long map(int x, int y) {
        if (!isOnMap(x, y) || !latest.exists()) {
            return NONE;
        }
        return cells.haulingSeconds(x, y, latest);
    }

    public boolean cell(int k, int x, int y, long seconds) {
        if (!isBelow(k, tracks.count) || !isOnMap(x, y)) {
            return false;
        }
        if (seconds < 1 || seconds > MOST_CELL_SECONDS || cells.count >= MOST_CELLS) {
            return false;
        }
        cells.add(k, x, y, seconds);
        return true;
    }

    public int gear(int k) {
        int first = latest.haulStart(k);
        if (first == NONE) {
            return NONE;
        }
        int last = latest.haulLast(first);
        int turning = tracks.turningRows(first, last);
        return 2 * turning > last - first + 1 ? 1 : 0;
    }

    public boolean ship(int s) {
        if (!isBelow(s, SHIPS)) {
            return false;
        }
        shipNow = s;
        return true;
    }

    public long total() {
        return latest.exists() ? tracks.seconds[latest.count - 1] - tracks.seconds[0] : NONE;
    }

    public boolean tied(int k2) {
        return latest.hasNextCost(k2) && latest.nextCosts[k2] == latest.cost;
    }

    public int night(int k) {
        if (!isBelow(k, tracks.count)) {
            return NONE;
        }
        long ofDay = tracks.seconds[k] % DAY;
        return ofDay < DAWN || ofDay >= DUSK ? 1 : 0;
    }

    private boolean isAct(int act) {
        return isBelow(act, acts);
    }

    private static boolean isCost(int cost) {
        return cost >= 0 && cost <= MOST_COST;
    }

    private static boolean isOnMap(int x, int y) {
        return isBelow(x, MAP_SIDE) && isBelow(y, MAP_SIDE);
    }

    private static boolean isBelow(int value, int end) {
        return value >= 0 && value < end;
    }

    /** A round works on costs of its own, so that one that is not kept leaves nothing to undo. */
    private boolean isRoundKept() {
        counts.countLine(tracks, latest.line);
        fitted.copyFrom(costs);
        fitted.fitTo(counts);
        finder.find(tracks, fitted, NONE);
        if (finder.cost >= latest.cost) {
            return false;
        }
        costs.copyFrom(fitted);
        latest.takeOver(tracks, costs, finder);
        return true;
    }

    private int differingRow(int k) {
        int seen = 0;
        for (int row = 0; row < latest.count; row++) {
            int told = pages.actAt(tracks.seconds[row]);
            if (told != NONE && told != latest.line[row]) {
                if (seen == k) {
                    return row;
                }
                seen++;
            }
        }
        return NONE;
    }

    /** The rows; all but a row's truth stays as it was told, so a run need only remember how many there were. */
    private static final class Tracks {
        final long[] seconds = new long[MOST_ROWS];
        final int[] classes = new int[MOST_ROWS];
        final int[] turns = new int[MOST_ROWS];
        final int[] ships = new int[MOST_ROWS];
        final int[] truths = new int[MOST_ROWS];
        int count = 0;

        boolean canFollow(long second) {
            if (count >= MOST_ROWS || second < 0) {
                return false;
            }
            return count == 0 || second > seconds[count - 1];
        }

        void add(long second, int cls, int turn, int ship) {
            seconds[count] = second;
            classes[count] = cls;
            turns[count] = turn;
            ships[count] = ship;
            truths[count] = NONE;
            count++;
        }

        /** Whether a true line may have the act there, the truths of one ship (NONE: of no ship) left out. */
        boolean allows(int row, int act, int shipLeftOut) {
            return truths[row] == NONE || truths[row] == act || ships[row] == shipLeftOut;
        }

        boolean hasTruthOf(int row, int ship) {
            return truths[row] != NONE && ships[row] == ship;
        }

        int truthsOf(int ship) {
            int known = 0;
            for (int row = 0; row < count; row++) {
                if (hasTruthOf(row, ship)) {
                    known++;
                }
            }
            return known;
        }

        int truthsMissed(int ship, int[] line) {
            int missed = 0;
            for (int row = 0; row < count; row++) {
                if (hasTruthOf(row, ship) && truths[row] != line[row]) {
                    missed++;
                }
            }
            return missed;
        }

        int turningRows(int first, int last) {
            int turning = 0;
            for (int row = first; row <= last; row++) {
                if (turns[row] >= FIRST_HAULING_TURN) {
                    turning++;
                }
            }
            return turning;
        }
    }

    /** A number for each change and for each act and class: costs, or how often a line has them. */
    private static final class Table {
        final int[][] changes;
        final int[][] speeds;

        Table(int acts) {
            changes = new int[acts][acts];
            speeds = new int[acts][CLASSES];
        }

        void copyFrom(Table other) {
            for (int act = 0; act < changes.length; act++) {
                System.arraycopy(other.changes[act], 0, changes[act], 0, changes[act].length);
                System.arraycopy(other.speeds[act], 0, speeds[act], 0, speeds[act].length);
            }
        }

        void countLine(Tracks tracks, int[] line) {
            clear();
            for (int row = 0; row < tracks.count; row++) {
                speeds[line[row]][tracks.classes[row]]++;
                if (row > 0) {
                    changes[line[row - 1]][line[row]]++;
                }
            }
        }

        void fitTo(Table counts) {
            for (int act = 0; act < changes.length; act++) {
                fitShares(counts.changes[act], changes[act]);
                fitShares(counts.speeds[act], speeds[act]);
            }
        }

        private void clear() {
            for (int act = 0; act < changes.length; act++) {
                Arrays.fill(changes[act], 0);
                Arrays.fill(speeds[act], 0);
            }
        }

        private static void fitShares(int[] counted, int[] costs) {
            int all = 0;
            for (int i = 0; i < counted.length; i++) {
                all += counted[i];
            }
            if (all == 0) {
                return;
            }
            for (int i = 0; i < counted.length; i++) {
                costs[i] = 1000 * (all - counted[i]) / all;
            }
        }
    }

    /**
     * Finds the best line. It goes from the last row to the first one, so that the line can then be
     * chosen from the first row on: that gives, of several, the one with the lesser act first.
     */
    private static final class LineFinder {
        /** Above what any line can cost, and low enough that a change may be added to it. */
        private static final int TOO_DEAR = 1000000000;

        final int[] line = new int[MOST_ROWS];
        int cost = 0;
        private final int acts;
        private final int[][] toGo;
        private final int[] noChange;
        private int[] before;
        private int[] after;

        LineFinder(int acts) {
            this.acts = acts;
            toGo = new int[MOST_ROWS][acts];
            noChange = new int[acts];
            before = new int[acts];
            after = new int[acts];
        }

        /** Needs at least one row. */
        void find(Tracks tracks, Table costs, int shipLeftOut) {
            for (int row = tracks.count - 1; row >= 0; row--) {
                fillToGo(tracks, costs, row, shipLeftOut);
            }
            line[0] = cheapest(noChange, toGo[0]);
            cost = toGo[0][line[0]];
            for (int row = 1; row < tracks.count; row++) {
                line[row] = cheapest(costs.changes[line[row - 1]], toGo[row]);
            }
        }

        /** Holds for the line that was found last, if no ship's truths were left out. */
        void fillNextCosts(Tracks tracks, Table costs, int[] nextCosts) {
            Arrays.fill(before, 0);
            for (int row = 0; row < tracks.count; row++) {
                boolean hasNext = acts > 1 && tracks.truths[row] == NONE;
                nextCosts[row] = hasNext ? leastOther(line[row], toGo[row]) : NONE;
                stepBefore(tracks, costs, row);
            }
        }

        private void fillToGo(Tracks tracks, Table costs, int row, int shipLeftOut) {
            int cls = tracks.classes[row];
            for (int act = 0; act < acts; act++) {
                if (!tracks.allows(row, act, shipLeftOut)) {
                    toGo[row][act] = TOO_DEAR;
                } else if (row == tracks.count - 1) {
                    toGo[row][act] = costs.speeds[act][cls];
                } else {
                    int[] changes = costs.changes[act];
                    int then = cheapest(changes, toGo[row + 1]);
                    toGo[row][act] = costs.speeds[act][cls] + changes[then] + toGo[row + 1][then];
                }
            }
        }

        private int cheapest(int[] changes, int[] ahead) {
            int best = 0;
            int least = changes[0] + ahead[0];
            for (int act = 1; act < acts; act++) {
                int sum = changes[act] + ahead[act];
                if (sum < least) {
                    least = sum;
                    best = act;
                }
            }
            return best;
        }

        private int leastOther(int chosen, int[] ahead) {
            int least = TOO_DEAR;
            for (int act = 0; act < acts; act++) {
                if (act != chosen) {
                    least = Math.min(least, before[act] + ahead[act]);
                }
            }
            return least;
        }

        /** Takes before, the least cost of what comes before each act of a row, on to the next row. */
        private void stepBefore(Tracks tracks, Table costs, int row) {
            int cls = tracks.classes[row];
            Arrays.fill(after, TOO_DEAR);
            for (int act = 0; act < acts; act++) {
                if (tracks.allows(row, act, NONE)) {
                    int upTo = before[act] + costs.speeds[act][cls];
                    for (int then = 0; then < acts; then++) {
                        after[then] = Math.min(after[then], upTo + costs.changes[act][then]);
                    }
                }
            }
            int[] spare = before;
            before = after;
            after = spare;
        }
    }

    /** The line of the latest run, with all that depends on costs and truths as they were then. */
    private static final class LatestRun {
        final int[] line = new int[MOST_ROWS];
        final int[] nextCosts = new int[MOST_ROWS];
        int count = 0;
        int cost = 0;

        void takeOver(Tracks tracks, Table costs, LineFinder finder) {
            count = tracks.count;
            cost = finder.cost;
            System.arraycopy(finder.line, 0, line, 0, count);
            finder.fillNextCosts(tracks, costs, nextCosts);
        }

        boolean exists() {
            return count > 0;
        }

        boolean has(int row) {
            return isBelow(row, count);
        }

        boolean hasNextCost(int row) {
            return has(row) && nextCosts[row] != NONE;
        }

        boolean isHauling(int row) {
            return has(row) && line[row] == HAULING;
        }

        /** The last row of the run has no next one: it ends as it begins. */
        long endOf(int row, long[] seconds) {
            return seconds[Math.min(row + 1, count - 1)];
        }

        long secondsOf(int act, long[] seconds) {
            long all = 0;
            for (int row = 0; row < count; row++) {
                if (line[row] == act) {
                    all += endOf(row, seconds) - seconds[row];
                }
            }
            return all;
        }

        int haulStart(int k) {
            int seen = 0;
            for (int row = 0; row < count; row++) {
                if (isHauling(row) && !isHauling(row - 1)) {
                    if (seen == k) {
                        return row;
                    }
                    seen++;
                }
            }
            return NONE;
        }

        int haulLast(int first) {
            int last = first;
            for (int row = first + 1; row < count && isHauling(row); row++) {
                last = row;
            }
            return last;
        }
    }

    /** The log pages, in the order in which they were told. */
    private static final class Pages {
        private final long[] from = new long[MOST_PAGES];
        private final long[] to = new long[MOST_PAGES];
        private final int[] told = new int[MOST_PAGES];
        int count = 0;

        void add(long first, long end, int act) {
            from[count] = first;
            to[count] = end;
            told[count] = act;
            count++;
        }

        int actAt(long second) {
            for (int i = count - 1; i >= 0; i--) {
                if (from[i] <= second && second < to[i]) {
                    return told[i];
                }
            }
            return NONE;
        }
    }

    /** What was told of rows in cells of the map. */
    private static final class Cells {
        private final int[] rows = new int[MOST_CELLS];
        private final int[] xs = new int[MOST_CELLS];
        private final int[] ys = new int[MOST_CELLS];
        private final long[] times = new long[MOST_CELLS];
        int count = 0;

        void add(int row, int x, int y, long seconds) {
            rows[count] = row;
            xs[count] = x;
            ys[count] = y;
            times[count] = seconds;
            count++;
        }

        long haulingSeconds(int x, int y, LatestRun latest) {
            long all = 0;
            for (int i = 0; i < count; i++) {
                if (xs[i] == x && ys[i] == y && latest.isHauling(rows[i])) {
                    all += times[i];
                }
            }
            return all;
        }
    }
}
