/** What is told to an object, and what of it is refused: promises 1 to 4, 8, 15, 17, 19, 21 and 24. */
public final class TellingTest {
    private static final Check CHECK = new Check("TellingTest");

    public static void main(String[] args) {
        numberOfActs();
        moves();
        speeds();
        rows();
        rowsUpToTheLimit();
        truths();
        pages();
        margins();
        cells();
        ships();
        nights();
        CHECK.end();
    }

    private static int actsOf(ActChains x) {
        int acts = 0;
        while (acts < 20 && x.move(acts, acts, 0)) {
            acts++;
        }
        return acts;
    }

    private static void numberOfActs() {
        int[][] cases = {{Integer.MIN_VALUE, 1}, {-1, 1}, {0, 1}, {1, 1}, {2, 2}, {7, 7}, {11, 11}, {12, 12},
            {13, 12}, {Integer.MAX_VALUE, 12}};
        for (int[] c : cases) {
            ActChains x = new ActChains(c[0]);
            CHECK.due("acts of new ActChains(" + c[0] + ")", actsOf(x), c[1]);
            CHECK.due("night(0) of a new object", x.night(0), -1);
            CHECK.due("run() of a new object", x.run(), -1);
            CHECK.no("greatest() of a new object", x.greatest());
        }
    }

    private static void moves() {
        ActChains x = new ActChains(3);
        x.row(0, 0, 0);
        x.row(1, 0, 0);
        x.truth(0, 1);
        x.truth(1, 2);
        CHECK.due("a change costs 0 at first", x.run(), 0);
        CHECK.yes("move(1, 2, 7)", x.move(1, 2, 7));
        CHECK.yes("move(2, 1, 9)", x.move(2, 1, 9));
        CHECK.due("the change from 1 to 2", x.run(), 7);
        CHECK.no("move(-1, 2, 5)", x.move(-1, 2, 5));
        CHECK.no("move(3, 2, 5)", x.move(3, 2, 5));
        CHECK.no("move(1, -1, 5)", x.move(1, -1, 5));
        CHECK.no("move(1, 3, 5)", x.move(1, 3, 5));
        CHECK.no("move(1, 2, -1)", x.move(1, 2, -1));
        CHECK.no("move(1, 2, 10001)", x.move(1, 2, 10001));
        CHECK.no("move(MIN, MAX, MIN)", x.move(Integer.MIN_VALUE, Integer.MAX_VALUE, Integer.MIN_VALUE));
        CHECK.due("refused moves change nothing", x.run(), 7);
        CHECK.yes("move(1, 2, 10000)", x.move(1, 2, 10000));
        CHECK.due("the dearest change", x.run(), 10000);
        CHECK.yes("move(1, 2, 0)", x.move(1, 2, 0));
        CHECK.due("the cheapest change", x.run(), 0);
        CHECK.yes("move(2, 2, 4)", x.move(2, 2, 4));
        x.truth(0, 2);
        CHECK.due("the change from 2 to itself", x.run(), 4);
    }

    private static void speeds() {
        ActChains x = new ActChains(3);
        x.row(0, 9, 0);
        x.truth(0, 2);
        CHECK.due("an act costs 0 at first", x.run(), 0);
        CHECK.yes("speed(2, 9, 6)", x.speed(2, 9, 6));
        CHECK.yes("speed(2, 8, 3)", x.speed(2, 8, 3));
        CHECK.yes("speed(1, 9, 2)", x.speed(1, 9, 2));
        CHECK.due("act 2 for class 9", x.run(), 6);
        CHECK.no("speed(-1, 9, 5)", x.speed(-1, 9, 5));
        CHECK.no("speed(3, 9, 5)", x.speed(3, 9, 5));
        CHECK.no("speed(2, -1, 5)", x.speed(2, -1, 5));
        CHECK.no("speed(2, 10, 5)", x.speed(2, 10, 5));
        CHECK.no("speed(2, 9, -1)", x.speed(2, 9, -1));
        CHECK.no("speed(2, 9, 10001)", x.speed(2, 9, 10001));
        CHECK.no("speed(MAX, MIN, MAX)", x.speed(Integer.MAX_VALUE, Integer.MIN_VALUE, Integer.MAX_VALUE));
        CHECK.due("refused speeds change nothing", x.run(), 6);
        CHECK.yes("speed(2, 9, 10000)", x.speed(2, 9, 10000));
        CHECK.due("the dearest act", x.run(), 10000);
        CHECK.yes("speed(2, 9, 0)", x.speed(2, 9, 0));
        CHECK.due("the cheapest act", x.run(), 0);
    }

    private static void rows() {
        ActChains x = new ActChains(2);
        CHECK.no("row(-1, 0, 0)", x.row(-1, 0, 0));
        CHECK.no("row(MIN, 0, 0)", x.row(Long.MIN_VALUE, 0, 0));
        CHECK.no("row(0, -1, 0)", x.row(0, -1, 0));
        CHECK.no("row(0, 10, 0)", x.row(0, 10, 0));
        CHECK.no("row(0, 0, -1)", x.row(0, 0, -1));
        CHECK.no("row(0, 0, 4)", x.row(0, 0, 4));
        CHECK.due("refused rows are no rows", x.run(), -1);
        CHECK.yes("row(0, 9, 3)", x.row(0, 9, 3));
        CHECK.no("row(0, 0, 0) again", x.row(0, 0, 0));
        CHECK.no("row(-1, 0, 0) later", x.row(-1, 0, 0));
        CHECK.yes("row(1, 0, 0)", x.row(1, 0, 0));
        CHECK.no("row(0, 0, 0) behind 1", x.row(0, 0, 0));
        CHECK.yes("row(2^62, 0, 0)", x.row(1L << 62, 0, 0));
        CHECK.no("row(2^62 - 1, 0, 0)", x.row((1L << 62) - 1, 0, 0));
        CHECK.yes("row(2^63 - 1, 0, 0)", x.row(Long.MAX_VALUE, 0, 0));
        CHECK.no("row(2^63 - 1, 0, 0) again", x.row(Long.MAX_VALUE, 0, 0));
        CHECK.due("run()", x.run(), 0);
        CHECK.due("act(3)", x.act(3), 0);
        CHECK.due("act(4)", x.act(4), -1);
        CHECK.due("total()", x.total(), Long.MAX_VALUE);
        CHECK.due("hours(0)", x.hours(0), Long.MAX_VALUE);
    }

    private static void rowsUpToTheLimit() {
        ActChains x = new ActChains(12);
        for (int i = 0; i < 200; i++) {
            CHECK.yes("row " + i, x.row(10L * i, i % 10, i % 4));
        }
        CHECK.no("row 200", x.row(5000, 0, 0));
        for (int cls = 0; cls < 10; cls++) {
            for (int act = 0; act < 12; act++) {
                x.speed(act, cls, 10000);
            }
        }
        CHECK.due("run() of 200 rows", x.run(), 2000000);
        CHECK.due("act(199)", x.act(199), 0);
        CHECK.due("act(200)", x.act(200), -1);
        CHECK.due("total()", x.total(), 1990);
        CHECK.due("night(199)", x.night(199), 1);
        CHECK.due("night(200)", x.night(200), -1);
        CHECK.no("truth(200, 0)", x.truth(200, 0));
        CHECK.no("cell(200, 0, 0, 1)", x.cell(200, 0, 0, 1));
        CHECK.yes("truth(199, 11)", x.truth(199, 11));
        CHECK.due("run() with a truth", x.run(), 2000000);
        CHECK.due("act(198)", x.act(198), 0);
        CHECK.due("act(199) with a truth", x.act(199), 11);
    }

    private static void truths() {
        ActChains x = new ActChains(3);
        CHECK.no("truth(0, 0) without rows", x.truth(0, 0));
        x.row(0, 0, 0);
        x.row(1, 0, 0);
        CHECK.no("truth(-1, 0)", x.truth(-1, 0));
        CHECK.no("truth(2, 0)", x.truth(2, 0));
        CHECK.no("truth(0, -1)", x.truth(0, -1));
        CHECK.no("truth(0, 3)", x.truth(0, 3));
        x.run();
        CHECK.due("refused truths change nothing", x.act(0), 0);
        x.speed(2, 0, 50);
        CHECK.yes("truth(1, 2)", x.truth(1, 2));
        CHECK.due("run() with a truth", x.run(), 50);
        CHECK.due("act(0)", x.act(0), 0);
        CHECK.due("act(1)", x.act(1), 2);
        CHECK.yes("truth(1, 1)", x.truth(1, 1));
        CHECK.due("run() with another truth", x.run(), 0);
        CHECK.due("act(1) then", x.act(1), 1);
        CHECK.no("truth(1, 3)", x.truth(1, 3));
        x.run();
        CHECK.due("act(1) after a refused one", x.act(1), 1);
    }

    private static void pages() {
        ActChains x = new ActChains(2);
        CHECK.no("page(0, 10, -1)", x.page(0, 10, -1));
        CHECK.no("page(0, 10, 2)", x.page(0, 10, 2));
        CHECK.no("page(-1, 10, 1)", x.page(-1, 10, 1));
        CHECK.no("page(10, 10, 1)", x.page(10, 10, 1));
        CHECK.no("page(11, 10, 1)", x.page(11, 10, 1));
        CHECK.no("page(MIN, MAX, 1)", x.page(Long.MIN_VALUE, Long.MAX_VALUE, 1));
        CHECK.no("page(MAX, MIN, 1)", x.page(Long.MAX_VALUE, Long.MIN_VALUE, 1));
        x.row(5, 0, 0);
        x.run();
        CHECK.due("refused pages are no pages", x.differs(0, 0), -1);
        for (int i = 0; i < 49; i++) {
            CHECK.yes("page " + i, x.page(i, i + 1, 0));
        }
        CHECK.yes("page 49", x.page(0, Long.MAX_VALUE, 1));
        CHECK.no("page 50", x.page(0, 100, 0));
        CHECK.due("the last page that was taken counts", x.differs(0, 1), 1);
    }

    private static void margins() {
        ActChains x = new ActChains(2);
        x.row(0, 0, 0);
        x.speed(1, 0, 3);
        x.run();
        CHECK.no("margin 0 at first", x.unsure(0));
        CHECK.yes("margin(3)", x.margin(3));
        CHECK.yes("unsure by 3", x.unsure(0));
        CHECK.no("margin(-1)", x.margin(-1));
        CHECK.no("margin(100001)", x.margin(100001));
        CHECK.no("margin(MIN)", x.margin(Integer.MIN_VALUE));
        CHECK.yes("a refused margin changes nothing", x.unsure(0));
        CHECK.yes("margin(2)", x.margin(2));
        CHECK.no("unsure by 2", x.unsure(0));
        CHECK.yes("margin(100000)", x.margin(100000));
        CHECK.yes("unsure by 100000", x.unsure(0));
        CHECK.yes("margin(0)", x.margin(0));
        CHECK.no("unsure by 0", x.unsure(0));
    }

    private static void cells() {
        ActChains x = new ActChains(4);
        CHECK.no("cell(0, 0, 0, 1) without rows", x.cell(0, 0, 0, 1));
        x.row(0, 0, 0);
        x.truth(0, 3);
        CHECK.no("cell(-1, 0, 0, 1)", x.cell(-1, 0, 0, 1));
        CHECK.no("cell(1, 0, 0, 1)", x.cell(1, 0, 0, 1));
        CHECK.no("cell(0, -1, 0, 1)", x.cell(0, -1, 0, 1));
        CHECK.no("cell(0, 20, 0, 1)", x.cell(0, 20, 0, 1));
        CHECK.no("cell(0, 0, -1, 1)", x.cell(0, 0, -1, 1));
        CHECK.no("cell(0, 0, 20, 1)", x.cell(0, 0, 20, 1));
        CHECK.no("cell(0, 0, 0, 0)", x.cell(0, 0, 0, 0));
        CHECK.no("cell(0, 0, 0, 1000001)", x.cell(0, 0, 0, 1000001));
        CHECK.no("cell(0, 0, 0, 2^32 + 1)", x.cell(0, 0, 0, (1L << 32) + 1));
        CHECK.no("cell(0, 0, 0, MIN)", x.cell(0, 0, 0, Long.MIN_VALUE));
        x.run();
        CHECK.due("refused cells are no cells", x.map(0, 0), 0);
        for (int i = 0; i < 299; i++) {
            CHECK.yes("cell " + i, x.cell(0, 19, 19, 1000000));
        }
        CHECK.yes("cell 299", x.cell(0, 0, 19, 1));
        CHECK.no("cell 300", x.cell(0, 0, 19, 1));
        CHECK.due("map(19, 19)", x.map(19, 19), 299000000);
        CHECK.due("map(0, 19)", x.map(0, 19), 1);
        CHECK.due("map(19, 0)", x.map(19, 0), 0);
    }

    private static void ships() {
        ActChains x = new ActChains(2);
        x.row(0, 0, 0);
        CHECK.yes("ship(9)", x.ship(9));
        x.row(1, 0, 0);
        CHECK.no("ship(10)", x.ship(10));
        CHECK.no("ship(-1)", x.ship(-1));
        x.row(2, 0, 0);
        CHECK.yes("ship(0)", x.ship(0));
        x.row(3, 0, 0);
        x.truth(0, 0);
        CHECK.due("the first row is of ship 0", x.leftOut(0), 0);
        CHECK.due("ship 9 has no truths", x.leftOut(9), -1);
        x.truth(1, 1);
        x.truth(2, 0);
        CHECK.due("rows 1 and 2 are of ship 9", x.leftOut(9), 500);
        x.truth(3, 1);
        CHECK.due("row 3 is of ship 0", x.leftOut(0), 500);
    }

    private static void nights() {
        long[][] cases = {{0, 1}, {21599, 1}, {21600, 0}, {43200, 0}, {64799, 0}, {64800, 1}, {86399, 1}, {86400, 1},
            {86400 + 21599, 1}, {86400 + 21600, 0}, {86400 + 64799, 0}, {86400 + 64800, 1},
            {86400L * 100000000 + 21599, 1}, {86400L * 100000000 + 21600, 0}};
        ActChains x = new ActChains(1);
        CHECK.due("night(0) without rows", x.night(0), -1);
        for (int i = 0; i < cases.length; i++) {
            x.row(cases[i][0], 0, 0);
            CHECK.due("night at second " + cases[i][0], x.night(i), cases[i][1]);
        }
        CHECK.due("night(-1)", x.night(-1), -1);
        CHECK.due("night behind the last", x.night(cases.length), -1);
        CHECK.due("night(MIN)", x.night(Integer.MIN_VALUE), -1);
    }
}
