/** Costs fitted by counting, and truths left out: promises 9, 10 and 11. */
public final class FittingTest {
    private static final Check CHECK = new Check("FittingTest");

    public static void main(String[] args) {
        refusedFits();
        keptRoundByHand();
        roundNotKept();
        roundsAreBounded();
        costsWithoutCountsStay();
        fitIsARun();
        sumsAreOfTheLatestFit();
        leftOutTruths();
        leftOutAsksOfNow();
        CHECK.end();
    }

    private static void refusedFits() {
        ActChains x = new ActChains(2);
        CHECK.due("fit(1) without rows", x.fit(1), -1);
        CHECK.due("sum(0) without a fit", x.sum(0), -1);
        x.row(0, 0, 0);
        x.speed(0, 0, 7);
        x.speed(1, 0, 8);
        CHECK.due("fit(0)", x.fit(0), -1);
        CHECK.due("fit(21)", x.fit(21), -1);
        CHECK.due("fit(-1)", x.fit(-1), -1);
        CHECK.due("fit(MIN)", x.fit(Integer.MIN_VALUE), -1);
        CHECK.due("sum(0) after refused fits", x.sum(0), -1);
        CHECK.no("greatest() after refused fits", x.greatest());
        CHECK.due("run() after refused fits", x.run(), 7);
        CHECK.due("fit(20)", x.fit(20), 1);
        CHECK.due("sum(0)", x.sum(0), 7);
        CHECK.due("sum(1)", x.sum(1), 0);
        CHECK.due("fit(0) again", x.fit(0), -1);
        CHECK.due("sum(1) after a refused fit", x.sum(1), 0);
    }

    /**
     * Truths 0 0 0 1 0 0 with classes 0 0 1 1 1 0. From 0: 4 changes, 3 to 0 and 1 to 1, 250 and 750.
     * From 1: one, to 0: 0, and 1000 to itself. Act 0: 5 rows, 3 of class 0 and 2 of class 1: 400 and 600.
     * Act 1: one row of class 1: 0, and 1000 for the others.
     */
    private static ActChains sixRows() {
        ActChains x = new ActChains(2);
        int[] classes = {0, 0, 1, 1, 1, 0};
        int[] truths = {0, 0, 0, 1, 0, 0};
        for (int i = 0; i < 6; i++) {
            x.row(i, classes[i], 0);
            x.truth(i, truths[i]);
        }
        for (int a = 0; a < 2; a++) {
            for (int b = 0; b < 2; b++) {
                x.move(a, b, 3000);
                x.speed(a, b, 3000);
            }
        }
        return x;
    }

    private static void keptRoundByHand() {
        ActChains x = sixRows();
        CHECK.due("fit(20)", x.fit(20), 1);
        CHECK.due("sum(0)", x.sum(0), 33000);
        CHECK.due("sum(1)", x.sum(1), 3 * 400 + 2 * 600 + 3 * 250 + 750);
        CHECK.due("sum(2)", x.sum(2), -1);
        CHECK.due("sum(-1)", x.sum(-1), -1);
        CHECK.due("sum(MAX)", x.sum(Integer.MAX_VALUE), -1);
        x.truth(4, 1);
        CHECK.due("run() with the change from 1 to itself", x.run(), 3 * 400 + 600 + 2 * 250 + 750 + 1000);
        x.truth(5, 1);
        CHECK.due("run() with act 1 for class 0", x.run(), 2 * 400 + 600 + 1000 + 2 * 250 + 750 + 2 * 1000);
    }

    /** All costs are 0, and a line of three classes would cost something with fitted costs. */
    private static void roundNotKept() {
        ActChains x = new ActChains(2);
        for (int i = 0; i < 3; i++) {
            x.row(i, i, 0);
        }
        CHECK.due("fit(5) where nothing is to gain", x.fit(5), 0);
        CHECK.due("sum(0)", x.sum(0), 0);
        CHECK.due("sum(1)", x.sum(1), -1);
        CHECK.due("run() with the costs of before", x.run(), 0);
        CHECK.yes("tied(1) with the costs of before", x.tied(1));
    }

    /** Rows whose first fit is kept and whose second one brings another line. */
    private static ActChains manyRounds() {
        ActChains x = new ActChains(3);
        int[] classes = {0, 1, 2, 0, 1, 2, 3, 3, 0, 4, 4, 1, 2, 0, 5, 5, 3, 1, 0, 2};
        for (int i = 0; i < classes.length; i++) {
            x.row(i, classes[i], 0);
        }
        for (int a = 0; a < 3; a++) {
            for (int c = 0; c < 6; c++) {
                x.speed(a, c, 900 + (7 * a + 5 * c) % 11 * 37);
            }
            for (int b = 0; b < 3; b++) {
                x.move(a, b, 900 + (3 * a + 5 * b) % 7 * 41);
            }
        }
        return x;
    }

    private static void roundsAreBounded() {
        ActChains all = manyRounds();
        int kept = all.fit(20);
        CHECK.yes("some rounds are kept, " + kept, kept >= 2);
        for (int round = 1; round <= kept; round++) {
            CHECK.yes("round " + round + " costs less than the one before", all.sum(round) < all.sum(round - 1));
        }
        CHECK.due("the latest run is that of the last kept round", all.run(), all.sum(kept));
        for (int most = 1; most < kept; most++) {
            ActChains some = manyRounds();
            CHECK.due("fit(" + most + ")", some.fit(most), most);
            CHECK.due("sum(" + most + ")", some.sum(most), all.sum(most));
            CHECK.due("sum behind the last round", some.sum(most + 1), -1);
            CHECK.due("a fit() that goes on", some.fit(20), kept - most);
            CHECK.due("sum(0) of the one that goes on", some.sum(0), all.sum(most));
        }
    }

    /** No row has act 2, and act 1 has the last row alone: from both there is no change. */
    private static void costsWithoutCountsStay() {
        ActChains x = new ActChains(3);
        x.row(0, 0, 0);
        x.row(1, 1, 0);
        x.truth(0, 0);
        x.truth(1, 1);
        x.speed(0, 0, 5000);
        x.speed(2, 1, 77);
        x.move(1, 2, 66);
        x.move(1, 0, 9000);
        x.move(1, 1, 9000);
        x.move(2, 0, 55);
        CHECK.due("fit(1)", x.fit(1), 1);
        CHECK.due("sum(1)", x.sum(1), 0);
        x.row(2, 1, 0);
        x.truth(2, 2);
        CHECK.due("run() with a change from 1 and act 2", x.run(), 66 + 77);
        x.row(3, 0, 0);
        x.truth(3, 0);
        CHECK.due("run() with a change from 2", x.run(), 66 + 77 + 55);
    }

    private static void fitIsARun() {
        ActChains x = new ActChains(4);
        x.row(0, 0, 2);
        x.row(10, 0, 0);
        x.speed(0, 0, 9);
        x.speed(1, 0, 9);
        x.speed(2, 0, 9);
        CHECK.due("fit(3)", x.fit(3), 0);
        CHECK.yes("greatest() behind a fit", x.greatest());
        CHECK.due("act(0)", x.act(0), 3);
        CHECK.due("hours(3)", x.hours(3), 10);
        CHECK.due("total()", x.total(), 10);
        CHECK.due("haul(0, 1)", x.haul(0, 1), 10);
        ActChains y = sixRows();
        y.fit(1);
        ActChains z = sixRows();
        z.fit(1);
        z.run();
        for (int margin = 0; margin < 4000; margin += 50) {
            y.margin(margin);
            z.margin(margin);
            CHECK.due("unsure(2) behind fit() and run()", y.unsure(2) ? 1 : 0, z.unsure(2) ? 1 : 0);
        }
        nextCostsBehindAFit();
    }

    /**
     * Act 0 for all rows: 1, 1. Behind the round act 0 for class 0 costs 0, as does its change to itself;
     * to 1 it costs 1000. Act 1 for class 0 costs 2 as before, and a change from 1 nothing.
     */
    private static void nextCostsBehindAFit() {
        ActChains x = new ActChains(2);
        x.row(0, 0, 0);
        x.row(1, 0, 0);
        x.speed(0, 0, 1);
        x.speed(1, 0, 2);
        CHECK.due("fit(9)", x.fit(9), 1);
        x.margin(1);
        CHECK.no("unsure(0) by 1", x.unsure(0));
        x.margin(2);
        CHECK.yes("unsure(0) by 2", x.unsure(0));
        x.margin(3);
        CHECK.no("unsure(1) by 3", x.unsure(1));
        x.margin(4);
        CHECK.yes("unsure(1) by 4, both rows having act 1", x.unsure(1));
    }

    private static void sumsAreOfTheLatestFit() {
        ActChains x = sixRows();
        x.fit(20);
        x.speed(0, 0, 1);
        x.run();
        CHECK.due("sum(0) behind a run", x.sum(0), 33000);
        CHECK.due("fit(1) again", x.fit(1), 0);
        CHECK.due("sum(0) of the latest fit", x.sum(0), 3 + 2 * 600 + 3 * 250 + 750);
        CHECK.due("sum(1) of the latest fit", x.sum(1), -1);
    }

    private static void leftOutTruths() {
        ActChains x = new ActChains(3);
        CHECK.due("leftOut(0) without rows", x.leftOut(0), -1);
        for (int i = 0; i < 8; i++) {
            x.ship(i < 4 ? 3 : 7);
            x.row(i, i % 2, 0);
        }
        x.speed(0, 0, 5);
        x.speed(1, 1, 5);
        x.speed(2, 0, 9);
        x.speed(2, 1, 9);
        CHECK.due("leftOut(3) without truths", x.leftOut(3), -1);
        x.truth(0, 1);
        CHECK.due("leftOut(3), the one truth is found", x.leftOut(3), 0);
        x.truth(1, 1);
        CHECK.due("leftOut(3), one of two is not", x.leftOut(3), 500);
        x.truth(2, 2);
        CHECK.due("leftOut(3), two of three are not", x.leftOut(3), 666);
        CHECK.due("leftOut(7) without truths", x.leftOut(7), -1);
        x.truth(7, 2);
        CHECK.due("leftOut(7), none is found", x.leftOut(7), 1000);
        CHECK.due("leftOut(3) as before", x.leftOut(3), 666);
        CHECK.due("leftOut(-1)", x.leftOut(-1), -1);
        CHECK.due("leftOut(10)", x.leftOut(10), -1);
        CHECK.due("leftOut(MIN)", x.leftOut(Integer.MIN_VALUE), -1);
        CHECK.no("leftOut() is no run", x.greatest());
        CHECK.due("run() with all truths put back", x.run(), 5 + 9 + 9);
        CHECK.due("act(1)", x.act(1), 1);
        CHECK.due("act(7)", x.act(7), 2);
    }

    /** The truth of another ship stays, and binds its neighbour through dear changes. */
    private static void leftOutAsksOfNow() {
        ActChains x = new ActChains(2);
        x.row(0, 0, 0);
        x.ship(1);
        x.row(1, 0, 0);
        x.move(0, 1, 100);
        x.move(1, 0, 100);
        x.truth(0, 0);
        x.truth(1, 1);
        CHECK.due("run()", x.run(), 100);
        CHECK.due("leftOut(1)", x.leftOut(1), 1000);
        CHECK.due("leftOut(0)", x.leftOut(0), 1000);
        CHECK.due("act(1) of the latest run", x.act(1), 1);
        CHECK.due("act(0) of the latest run", x.act(0), 0);
        CHECK.no("tied(1) of the latest run", x.tied(1));
        x.speed(0, 0, 500);
        CHECK.due("leftOut(1) with costs of now", x.leftOut(1), 0);
        x.ship(0);
        x.row(2, 0, 0);
        x.truth(2, 0);
        CHECK.due("leftOut(0) with rows of now", x.leftOut(0), 1000);
        CHECK.due("total() of the latest run", x.total(), 1);
        CHECK.due("hours(1) of the latest run", x.hours(1), 0);
    }
}
