/** What is asked of the best line: promises 12, 13, 14, 18, 20 and 22. */
public final class ReportsTest {
    private static final Check CHECK = new Check("ReportsTest");

    public static void main(String[] args) {
        beforeARun();
        hoursAndTotal();
        hauls();
        lateHauls();
        gears();
        differences();
        laterPagesCount();
        maps();
        CHECK.end();
    }

    private static ActChains withActs(int number, long[] seconds, int[] acts) {
        ActChains x = new ActChains(number);
        for (int i = 0; i < seconds.length; i++) {
            x.row(seconds[i], 0, 0);
            x.truth(i, acts[i]);
        }
        return x;
    }

    private static void beforeARun() {
        ActChains x = withActs(4, new long[] {0, 5}, new int[] {3, 3});
        x.page(0, 10, 1);
        x.cell(0, 0, 0, 5);
        CHECK.due("hours(3) before a run", x.hours(3), -1);
        CHECK.due("haul(0, 0) before a run", x.haul(0, 0), -1);
        CHECK.due("gear(0) before a run", x.gear(0), -1);
        CHECK.due("differs(0, 0) before a run", x.differs(0, 0), -1);
        CHECK.due("map(0, 0) before a run", x.map(0, 0), -1);
        CHECK.due("total() before a run", x.total(), -1);
        x.run();
        CHECK.due("hours(3)", x.hours(3), 5);
        CHECK.due("haul(0, 0)", x.haul(0, 0), 0);
        CHECK.due("gear(0)", x.gear(0), 0);
        CHECK.due("differs(0, 0)", x.differs(0, 0), 0);
        CHECK.due("map(0, 0)", x.map(0, 0), 5);
        CHECK.due("total()", x.total(), 5);
    }

    private static void hoursAndTotal() {
        ActChains x = withActs(3, new long[] {7, 10, 50, 51, 1000}, new int[] {1, 0, 1, 2, 1});
        x.run();
        CHECK.due("hours(0)", x.hours(0), 40);
        CHECK.due("hours(1)", x.hours(1), 3 + 1);
        CHECK.due("hours(2)", x.hours(2), 949);
        CHECK.due("hours(3)", x.hours(3), -1);
        CHECK.due("hours(-1)", x.hours(-1), -1);
        CHECK.due("hours(MAX)", x.hours(Integer.MAX_VALUE), -1);
        CHECK.due("total()", x.total(), 993);
        x.row(2000, 0, 0);
        CHECK.due("total() before the next run", x.total(), 993);
        CHECK.due("hours(1) before the next run", x.hours(1), 4);
        x.run();
        CHECK.due("total() behind it", x.total(), 1993);
        CHECK.due("hours(1) behind it", x.hours(1), 1004);
    }

    private static void hauls() {
        ActChains x = withActs(5, new long[] {1, 2, 4, 8, 16, 32, 64, 128}, new int[] {3, 3, 0, 3, 4, 3, 3, 3});
        x.run();
        int[][] due = {{1, 4}, {8, 16}, {32, 128}};
        for (int k = 0; k < due.length; k++) {
            CHECK.due("haul(" + k + ", 0)", x.haul(k, 0), due[k][0]);
            CHECK.due("haul(" + k + ", 1)", x.haul(k, 1), due[k][1]);
            CHECK.due("haul(" + k + ", 2)", x.haul(k, 2), -1);
            CHECK.due("haul(" + k + ", -1)", x.haul(k, -1), -1);
        }
        CHECK.due("haul(3, 0)", x.haul(3, 0), -1);
        CHECK.due("haul(3, 1)", x.haul(3, 1), -1);
        CHECK.due("haul(-1, 0)", x.haul(-1, 0), -1);
        CHECK.due("haul(MIN, 0)", x.haul(Integer.MIN_VALUE, 0), -1);
        CHECK.due("haul(MAX, 1)", x.haul(Integer.MAX_VALUE, 1), -1);
        CHECK.due("gear(3)", x.gear(3), -1);
        CHECK.due("gear(-1)", x.gear(-1), -1);
        ActChains none = withActs(3, new long[] {1, 2}, new int[] {2, 2});
        none.run();
        CHECK.due("haul(0, 0) with three acts", none.haul(0, 0), -1);
        CHECK.due("gear(0) with three acts", none.gear(0), -1);
        CHECK.due("map(0, 0) with three acts", none.map(0, 0), 0);
    }

    private static void lateHauls() {
        long top = Integer.MAX_VALUE;
        ActChains x = withActs(4, new long[] {top - 1, top, top + 1}, new int[] {3, 0, 3});
        x.run();
        CHECK.due("haul(0, 0)", x.haul(0, 0), top - 1);
        CHECK.due("haul(0, 1) at 2^31 - 1", x.haul(0, 1), top);
        CHECK.due("haul(1, 0) at 2^31", x.haul(1, 0), -1);
        CHECK.due("haul(1, 1) at 2^31", x.haul(1, 1), -1);
        CHECK.due("gear(1)", x.gear(1), 0);
        ActChains y = withActs(4, new long[] {top, 1L << 32, 1L << 33}, new int[] {3, 0, 3});
        y.run();
        CHECK.due("haul(0, 0) at 2^31 - 1", y.haul(0, 0), top);
        CHECK.due("haul(0, 1) at 2^32", y.haul(0, 1), -1);
        CHECK.due("haul(1, 0) at 2^33", y.haul(1, 0), -1);
    }

    private static void gears() {
        int[][] turns = {{2}, {1}, {2, 1}, {3, 2, 1}, {0, 3, 1}, {1, 2, 3, 0}, {3, 3, 2, 0}};
        ActChains x = new ActChains(4);
        int second = 0;
        int row = 0;
        for (int[] haul : turns) {
            for (int turn : haul) {
                x.row(second++, 0, turn);
                x.truth(row++, 3);
            }
            x.row(second++, 0, 3);
            x.truth(row++, 0);
        }
        x.run();
        int[] due = {1, 0, 0, 1, 0, 0, 1};
        for (int k = 0; k < due.length; k++) {
            CHECK.due("gear(" + k + ")", x.gear(k), due[k]);
        }
        CHECK.due("gear behind the last haul", x.gear(due.length), -1);
    }

    private static void differences() {
        ActChains x = withActs(3, new long[] {9, 10, 19, 20, 30}, new int[] {0, 0, 1, 0, 2});
        x.run();
        CHECK.due("differs(0, 0) without pages", x.differs(0, 0), -1);
        x.page(10, 20, 1);
        CHECK.due("differs(0, 0), the page's first second", x.differs(0, 0), 1);
        CHECK.due("differs(0, 1)", x.differs(0, 1), 1);
        CHECK.due("differs(1, 0), the page ends before 20", x.differs(1, 0), -1);
        x.page(20, 31, 1);
        CHECK.due("differs(1, 0)", x.differs(1, 0), 3);
        CHECK.due("differs(2, 0)", x.differs(2, 0), 4);
        CHECK.due("differs(2, 1)", x.differs(2, 1), 1);
        CHECK.due("differs(3, 0)", x.differs(3, 0), -1);
        CHECK.due("differs(-1, 0)", x.differs(-1, 0), -1);
        CHECK.due("differs(MIN, 1)", x.differs(Integer.MIN_VALUE, 1), -1);
        CHECK.due("differs(0, 2)", x.differs(0, 2), -1);
        CHECK.due("differs(0, -1)", x.differs(0, -1), -1);
    }

    private static void laterPagesCount() {
        ActChains x = withActs(3, new long[] {0, 10, 20}, new int[] {0, 0, 0});
        x.run();
        x.page(0, 30, 2);
        x.page(10, 11, 0);
        CHECK.due("differs(1, 0): the later page agrees at 10", x.differs(1, 0), 2);
        CHECK.due("differs(2, 0)", x.differs(2, 0), -1);
        x.page(5, 15, 1);
        CHECK.due("differs(1, 0): the latest page does not", x.differs(1, 0), 1);
        CHECK.due("differs(1, 1)", x.differs(1, 1), 1);
        CHECK.due("differs(0, 1)", x.differs(0, 1), 2);
    }

    private static void maps() {
        ActChains x = withActs(4, new long[] {0, 1, 2}, new int[] {3, 0, 3});
        x.cell(0, 2, 19, 10);
        x.cell(1, 2, 19, 200);
        x.run();
        CHECK.due("map(2, 19)", x.map(2, 19), 10);
        x.cell(2, 2, 19, 3000);
        x.cell(0, 2, 19, 1);
        x.cell(0, 19, 2, 40);
        CHECK.due("map(2, 19) with cells of now", x.map(2, 19), 3011);
        CHECK.due("map(19, 2)", x.map(19, 2), 40);
        CHECK.due("map(0, 0)", x.map(0, 0), 0);
        CHECK.due("map(-1, 0)", x.map(-1, 0), -1);
        CHECK.due("map(0, -1)", x.map(0, -1), -1);
        CHECK.due("map(20, 0)", x.map(20, 0), -1);
        CHECK.due("map(0, 20)", x.map(0, 20), -1);
        x.truth(1, 3);
        x.truth(0, 0);
        CHECK.due("map(2, 19) before the next run", x.map(2, 19), 3011);
        x.run();
        CHECK.due("map(2, 19) behind it", x.map(2, 19), 3200);
        x.row(3, 0, 0);
        x.cell(3, 5, 5, 9);
        CHECK.due("map(5, 5), a row behind the run", x.map(5, 5), 0);
        x.truth(3, 3);
        x.run();
        CHECK.due("map(5, 5), the row being in the run", x.map(5, 5), 9);
    }
}
