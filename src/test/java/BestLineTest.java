/** The best line and its next costs: promises 5, 6, 7, 16 and 23, and that a run stays as it was found. */
public final class BestLineTest {
    private static final Check CHECK = new Check("BestLineTest");

    public static void main(String[] args) {
        beforeARun();
        leastCost();
        lesserActFirst();
        truthsBind();
        nextCosts();
        noNextCost();
        dearestLine();
        latestRunStays();
        CHECK.end();
    }

    private static void checkLine(ActChains x, int... acts) {
        for (int k = 0; k < acts.length; k++) {
            CHECK.due("act(" + k + ")", x.act(k), acts[k]);
        }
        CHECK.due("act behind the last row", x.act(acts.length), -1);
        CHECK.due("act(-1)", x.act(-1), -1);
        CHECK.due("act(MIN)", x.act(Integer.MIN_VALUE), -1);
        CHECK.due("act(MAX)", x.act(Integer.MAX_VALUE), -1);
    }

    private static void beforeARun() {
        ActChains x = new ActChains(4);
        CHECK.due("run() without rows", x.run(), -1);
        CHECK.no("greatest() after a run() without rows", x.greatest());
        x.row(0, 0, 0);
        CHECK.no("greatest() before a run", x.greatest());
        CHECK.due("act(0) before a run", x.act(0), -1);
        CHECK.no("unsure(0) before a run", x.unsure(0));
        CHECK.no("tied(0) before a run", x.tied(0));
        CHECK.due("run()", x.run(), 0);
        CHECK.yes("greatest() behind a run", x.greatest());
    }

    /** Act 1 is the cheaper one for the middle row, but the two changes cost more than that. */
    private static void leastCost() {
        ActChains x = new ActChains(2);
        x.row(0, 0, 0);
        x.row(1, 1, 0);
        x.row(2, 0, 0);
        x.speed(0, 1, 10);
        x.speed(1, 0, 100);
        x.move(0, 1, 6);
        x.move(1, 0, 5);
        CHECK.due("run() with dear changes", x.run(), 10);
        checkLine(x, 0, 0, 0);
        x.move(0, 1, 4);
        CHECK.due("run() with cheap changes", x.run(), 9);
        checkLine(x, 0, 1, 0);
        x.move(0, 0, 50);
        x.speed(1, 0, 3);
        x.move(1, 1, 1);
        CHECK.due("run() where 0, 1, 1 and 1, 1, 1 cost the same", x.run(), 8);
        checkLine(x, 0, 1, 1);
    }

    private static void lesserActFirst() {
        ActChains x = new ActChains(3);
        x.row(0, 0, 0);
        x.row(1, 1, 0);
        x.speed(0, 0, 5);
        x.speed(0, 1, 5);
        x.move(0, 0, 5);
        x.move(1, 1, 5);
        x.move(2, 2, 5);
        CHECK.due("run() with ties", x.run(), 0);
        checkLine(x, 1, 2);
        ActChains y = new ActChains(3);
        y.row(0, 0, 0);
        y.row(1, 1, 0);
        y.speed(0, 0, 4);
        y.speed(2, 1, 0);
        y.speed(0, 1, 4);
        y.speed(1, 1, 4);
        y.speed(1, 0, 4);
        y.speed(2, 0, 4);
        y.move(0, 0, 1);
        y.move(0, 1, 1);
        y.move(0, 2, 4);
        y.move(1, 2, 4);
        y.move(2, 2, 9);
        y.move(2, 0, 0);
        y.move(1, 0, 0);
        y.move(1, 1, 0);
        CHECK.due("run() where the first rows tie", y.run(), 8);
        checkLine(y, 0, 2);
    }

    private static void truthsBind() {
        ActChains x = new ActChains(3);
        for (int i = 0; i < 4; i++) {
            x.row(i, 0, 0);
        }
        x.speed(0, 0, 1);
        x.speed(1, 0, 2);
        x.speed(2, 0, 100);
        x.move(0, 2, 50);
        x.move(1, 2, 10);
        x.move(0, 1, 3);
        x.move(2, 0, 7);
        CHECK.due("run() without truths", x.run(), 4);
        checkLine(x, 0, 0, 0, 0);
        x.truth(2, 2);
        CHECK.due("run() with a truth", x.run(), 2 + 2 + 10 + 100 + 2);
        checkLine(x, 1, 1, 2, 1);
        x.truth(1, 0);
        CHECK.due("run() with two truths", x.run(), 1 + 1 + 50 + 100 + 2);
        checkLine(x, 0, 0, 2, 1);
    }

    /** One row, acts 0, 1 and 2 at 10, 13 and 17: the next cost is above the best one by 3. */
    private static void nextCosts() {
        ActChains x = new ActChains(3);
        x.row(0, 0, 0);
        x.speed(0, 0, 10);
        x.speed(1, 0, 13);
        x.speed(2, 0, 17);
        CHECK.due("run()", x.run(), 10);
        CHECK.no("tied(0)", x.tied(0));
        x.margin(2);
        CHECK.no("unsure(0) by 2", x.unsure(0));
        x.margin(3);
        CHECK.yes("unsure(0) by 3", x.unsure(0));
        CHECK.no("tied(0) whatever the margin", x.tied(0));
        CHECK.no("unsure(1)", x.unsure(1));
        CHECK.no("unsure(-1)", x.unsure(-1));
        CHECK.no("tied(1)", x.tied(1));
        CHECK.no("tied(-1)", x.tied(-1));
        CHECK.no("tied(MIN)", x.tied(Integer.MIN_VALUE));
        x.speed(2, 0, 10);
        CHECK.no("tied(0) by the costs of the run", x.tied(0));
        CHECK.due("run()", x.run(), 10);
        CHECK.yes("tied(0)", x.tied(0));
        x.margin(0);
        CHECK.yes("unsure(0) by 0", x.unsure(0));
    }

    private static void noNextCost() {
        ActChains x = new ActChains(2);
        x.row(0, 0, 0);
        x.row(1, 0, 0);
        x.margin(100000);
        x.truth(0, 0);
        x.run();
        CHECK.no("tied(0) with a truth", x.tied(0));
        CHECK.no("unsure(0) with a truth", x.unsure(0));
        CHECK.yes("tied(1)", x.tied(1));
        CHECK.yes("unsure(1)", x.unsure(1));
        ActChains one = new ActChains(1);
        one.row(0, 0, 0);
        one.margin(100000);
        one.run();
        CHECK.no("tied(0) with one act", one.tied(0));
        CHECK.no("unsure(0) with one act", one.unsure(0));
        ActChains bound = new ActChains(2);
        for (int i = 0; i < 3; i++) {
            bound.row(i, 0, 0);
        }
        bound.truth(0, 1);
        bound.truth(2, 1);
        bound.move(1, 0, 4);
        bound.move(0, 1, 5);
        CHECK.due("run() with a row between truths", bound.run(), 0);
        bound.margin(8);
        CHECK.no("unsure(1) by 8 between truths", bound.unsure(1));
        bound.margin(9);
        CHECK.yes("unsure(1) by 9 between truths", bound.unsure(1));
    }

    private static void dearestLine() {
        ActChains x = new ActChains(2);
        for (int i = 0; i < 200; i++) {
            x.row(i, 0, 0);
        }
        for (int a = 0; a < 2; a++) {
            x.speed(a, 0, 10000);
            x.move(a, 0, 10000);
            x.move(a, 1, 10000);
        }
        CHECK.due("run() of the dearest line", x.run(), 3990000);
        CHECK.yes("tied(100)", x.tied(100));
        x.truth(0, 1);
        x.truth(199, 1);
        CHECK.due("run() of the dearest line with truths", x.run(), 3990000);
        CHECK.due("act(0)", x.act(0), 1);
        CHECK.due("act(1)", x.act(1), 0);
        CHECK.due("act(199)", x.act(199), 1);
        CHECK.yes("tied(198)", x.tied(198));
        CHECK.no("tied(199)", x.tied(199));
    }

    private static void latestRunStays() {
        ActChains x = new ActChains(4);
        x.row(0, 0, 2);
        x.row(100, 0, 2);
        x.truth(1, 3);
        x.move(0, 3, 1);
        x.move(1, 3, 1);
        x.move(3, 3, 2);
        x.move(2, 3, 2);
        CHECK.due("run()", x.run(), 1);
        x.truth(0, 3);
        x.truth(1, 0);
        x.speed(0, 0, 500);
        x.row(250, 0, 0);
        checkLine(x, 0, 3);
        CHECK.yes("tied(0) with the truths of the run", x.tied(0));
        CHECK.no("tied(1) with the truths of the run", x.tied(1));
        CHECK.no("tied(2), a row behind the run", x.tied(2));
        CHECK.due("hours(0)", x.hours(0), 100);
        CHECK.due("hours(3)", x.hours(3), 0);
        CHECK.due("total()", x.total(), 100);
        CHECK.due("haul(0, 0)", x.haul(0, 0), 100);
        CHECK.due("haul(0, 1) with the rows of the run", x.haul(0, 1), 100);
        CHECK.due("gear(0)", x.gear(0), 1);
        x.cell(1, 4, 5, 7);
        x.cell(2, 4, 5, 11);
        CHECK.due("map(4, 5) with cells of now", x.map(4, 5), 7);
        x.page(0, 1000, 1);
        CHECK.due("differs(1, 0) with pages of now", x.differs(1, 0), 1);
        CHECK.due("differs(2, 0)", x.differs(2, 0), -1);
        CHECK.due("a new run()", x.run(), 500);
        checkLine(x, 3, 0, 1);
        CHECK.due("haul(0, 1)", x.haul(0, 1), 100);
        CHECK.due("hours(0)", x.hours(0), 150);
    }
}
