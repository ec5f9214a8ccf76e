/**
 * The edges of the best line, of its next costs and of leaving truths out, each from both sides:
 * promises 5, 6, 7, 11, 16 and 23. What stands in quotes is the document's sentence that a test holds to.
 */
public final class EdgesOfLinesTest extends Calls {
    private static final Check CHECK = new Check("EdgesOfLinesTest");

    public static void main(String[] args) {
        runWithoutRows();
        runOfTheCheapestAndTheDearestLine();
        firstOfSeveralBestLines();
        actWithoutSuchARow();
        actWithoutARun();
        actOfARowBehindTheRun();
        greatestWithoutARun();
        leftOutWithoutTruths();
        leftOutOfNoSuchShip();
        leftOutIsRoundedDown();
        leftOutPutsTruthsBack();
        leftOutOfOneShipAlone();
        unsureByTheMarginOrLess();
        unsureByTheGreatestGap();
        unsureWithAMarginOfNow();
        tiedWhenTheNextCostIsTheBestOne();
        noNextCostOfARowWithATruth();
        noNextCostOfOneAct();
        noNextCostOfNoSuchRow();
        noNextCostWithoutARun();
        nextCostsOfARunStay();
        CHECK.end();
    }

    private static Track track(String about, int acts) {
        return new Track(CHECK, about, acts);
    }

    /** 5: "NONE when there are no rows". */
    private static void runWithoutRows() {
        Track x = track("a run without rows", 3).after(speed(0, 0, 5), speed(1, 0, 6), speed(2, 0, 7));
        x.none(run(), run()).no(row(-1, 0, 0)).none(run()).no(greatest());
        x.yes(row(0, 0, 0)).due(5, run(), run()).yes(greatest());
    }

    /** 5: the least cost there can be, and the greatest: 200 acts and 199 changes. */
    private static void runOfTheCheapestAndTheDearestLine() {
        Track x = track("200 rows", 1);
        for (int k = 0; k < 200; k++) {
            x.yes(row(k, 0, 0));
        }
        x.due(0, run()).yes(speed(0, 0, 10000)).due(2000000, run()).yes(move(0, 0, 10000)).due(3990000, run());
        track("one row", 1).yes(row(0, 0, 0), speed(0, 0, 10000), move(0, 0, 10000)).due(10000, run());
    }

    /** Terms: "of several the first one (with the lesser act at the first row at which two differ)". */
    private static void firstOfSeveralBestLines() {
        Track x = track("0 2 and 1 0", 3).after(row(0, 0, 0), row(1, 1, 0), move(0, 0, 9), move(0, 1, 9));
        x.after(move(1, 1, 9), move(1, 2, 9), move(2, 0, 9), move(2, 1, 9), move(2, 2, 9));
        x.due(0, run()).due(0, act(0)).due(2, act(1)).yes(tied(0), tied(1));
        x.yes(move(0, 2, 1)).due(0, run()).due(1, act(0)).due(0, act(1)).no(tied(0), tied(1));
        x.yes(move(1, 0, 1)).due(1, run()).due(0, act(0)).due(2, act(1)).yes(tied(0), tied(1));
        x.yes(move(1, 0, 2)).due(1, run()).due(0, act(0)).due(2, act(1)).no(tied(0), tied(1));
        Track last = track("the last rows differ", 12).after(row(0, 0, 0), row(1, 1, 0), speed(0, 1, 1));
        last.due(0, run()).due(0, act(0)).due(1, act(1)).yes(speed(0, 1, 0)).due(0, run()).due(0, act(1));
    }

    /** 6: "NONE when there is no such row in the latest run". */
    private static void actWithoutSuchARow() {
        Track x = track("rows of acts", 2).after(row(0, 0, 0), row(1, 0, 0), row(2, 0, 0), run());
        x.due(0, act(0), act(1), act(2)).none(act(-1), act(3), act(MIN), act(MAX), act(200));
    }

    /** 6: "or no run". */
    private static void actWithoutARun() {
        Track x = track("acts without a run", 2).none(act(0), run(), act(0)).yes(row(0, 0, 0)).none(act(0));
        x.due(0, run()).due(0, act(0));
    }

    /** 6: a row that came behind the latest run is not in it. */
    private static void actOfARowBehindTheRun() {
        Track x = track("a row behind the run", 2).after(row(0, 0, 0), run()).yes(row(1, 0, 0), truth(1, 1));
        x.due(0, act(0)).none(act(1)).due(0, run()).due(0, act(0)).due(1, act(1)).none(act(2));
    }

    /** 7: "Whether there was a run". */
    private static void greatestWithoutARun() {
        Track x = track("greatest", 2).no(greatest()).none(run(), fit(1)).no(greatest());
        x.yes(row(0, 0, 0), truth(0, 1)).due(1000, leftOut(0)).no(greatest()).due(0, run()).yes(greatest());
    }

    /** 11: "NONE when there are none". */
    private static void leftOutWithoutTruths() {
        Track x = track("truths left out", 2).none(leftOut(0)).yes(row(0, 0, 0), row(1, 0, 0)).none(leftOut(0));
        x.yes(truth(1, 0)).due(0, leftOut(0)).yes(truth(1, 1)).due(1000, leftOut(0));
        Track y = track("a truth of another ship", 2).yes(row(0, 0, 0), ship(1), row(1, 0, 0), truth(1, 1));
        y.none(leftOut(0), leftOut(2)).due(1000, leftOut(1)).yes(truth(0, 0)).due(0, leftOut(0));
    }

    /** 11: no ship but 0 .. 9 can have rows. */
    private static void leftOutOfNoSuchShip() {
        Track x = track("the ship left out", 2).yes(row(0, 0, 0), truth(0, 1), ship(9), row(1, 0, 0), truth(1, 1));
        x.none(leftOut(-1), leftOut(10), leftOut(MIN), leftOut(MAX), leftOut(1), leftOut(8));
        x.due(1000, leftOut(0), leftOut(9));
    }

    /** 11: "times 1000 over how many there are, rounded down"; a row without a truth is none of them. */
    private static void leftOutIsRoundedDown() {
        Track x = track("shares left out", 2);
        for (int k = 0; k < 8; k++) {
            x.yes(row(k, 0, 0));
        }
        x.yes(truth(0, 0)).due(0, leftOut(0)).yes(truth(1, 1)).due(500, leftOut(0));
        x.yes(truth(2, 0)).due(333, leftOut(0)).yes(truth(2, 1)).due(666, leftOut(0));
        x.yes(truth(3, 1), truth(4, 1), truth(5, 1), truth(6, 1)).due(857, leftOut(0));
        x.yes(truth(0, 1)).due(1000, leftOut(0));
        Track all = track("shares of 200 rows", 2);
        for (int k = 0; k < 200; k++) {
            all.yes(row(k, 0, 0), truth(k, k == 117 ? 1 : 0));
        }
        all.due(5, leftOut(0)).yes(truth(117, 0)).due(0, leftOut(0));
    }

    /** 11: "(and put back behind)" and "(The latest run stays as it was.)". */
    private static void leftOutPutsTruthsBack() {
        Track x = track("truths put back", 3).yes(row(0, 0, 0), row(10, 0, 0), truth(0, 2), speed(2, 0, 5));
        x.due(1000, leftOut(0)).no(greatest()).none(act(0), total());
        x.due(5, run()).due(2, act(0)).due(1000, leftOut(0)).due(2, act(0)).due(10, hours(2)).no(tied(0)).yes(tied(1));
        x.due(5, run()).due(2, act(0)).yes(row(20, 0, 0)).due(1000, leftOut(0)).none(act(2)).due(10, total());
    }

    /** 11: "all truths of a ship's rows": those of the others bind the line. */
    private static void leftOutOfOneShipAlone() {
        Track x = track("two ships", 2).yes(row(0, 0, 0), ship(1), row(1, 0, 0), ship(0), row(2, 0, 0));
        x.yes(move(0, 1, 9), move(1, 0, 9), truth(0, 1), truth(1, 1), truth(2, 1));
        x.due(0, leftOut(0), leftOut(1)).yes(truth(1, 0)).due(1000, leftOut(0), leftOut(1));
        x.yes(truth(2, 0), truth(0, 0)).due(0, leftOut(0), leftOut(1));
    }

    /** Acts 0 and 1 for one row, the second one dearer by so much. */
    private static Track gap(int above) {
        return track("a gap of " + above, 2).after(row(0, 0, 0), speed(0, 0, 50), speed(1, 0, 50 + above))
            .due(50, run());
    }

    /** 16: "by the margin or less". */
    private static void unsureByTheMarginOrLess() {
        gap(0).yes(unsure(0), margin(1), unsure(0));
        gap(1).no(unsure(0)).yes(margin(1), unsure(0));
        gap(7).yes(margin(7), unsure(0), margin(8), unsure(0), margin(6)).no(unsure(0));
        gap(8).yes(margin(7)).no(unsure(0)).yes(margin(100000), unsure(0));
        gap(9950).yes(margin(9949)).no(unsure(0)).yes(margin(9950), unsure(0));
    }

    /** 16: the greatest gap: an act and two changes more, at 10000 each. */
    private static void unsureByTheGreatestGap() {
        Track x = track("the greatest gap", 2).after(row(0, 0, 0), row(1, 0, 0), row(2, 0, 0), speed(1, 0, 10000));
        x.after(move(0, 1, 10000), move(1, 0, 10000), move(1, 1, 10000)).due(0, run());
        x.yes(margin(29999)).no(unsure(1)).yes(margin(30000), unsure(1)).yes(margin(19999)).no(unsure(0), unsure(2));
        x.yes(margin(20000), unsure(0), unsure(2)).no(unsure(1));
    }

    /** Terms: "pages, cells and margin as they are now". */
    private static void unsureWithAMarginOfNow() {
        Track x = gap(5).yes(margin(5), unsure(0)).due(50, run()).yes(unsure(0), margin(4)).no(unsure(0));
        x.no(margin(100001), unsure(0)).yes(margin(6), unsure(0));
    }

    /** 23: "Whether the next cost of a row is the best one". */
    private static void tiedWhenTheNextCostIsTheBestOne() {
        gap(0).yes(tied(0), margin(100000), tied(0));
        gap(1).no(tied(0)).yes(margin(1)).no(tied(0)).yes(margin(100000)).no(tied(0));
        Track x = track("one row of two tied", 2).after(row(0, 0, 0), row(1, 1, 0), speed(1, 1, 1)).due(0, run());
        x.yes(tied(0)).no(tied(1));
    }

    /** 16, 23, Terms: "there is none for a row with a truth". */
    private static void noNextCostOfARowWithATruth() {
        Track x = track("a row with a truth", 2).after(row(0, 0, 0), row(1, 0, 0), margin(100000), run());
        x.yes(tied(0), unsure(0), tied(1), unsure(1)).yes(truth(0, 0)).due(0, run());
        x.no(tied(0), unsure(0)).yes(tied(1), unsure(1)).yes(truth(1, 1)).due(0, run());
        x.no(tied(0), unsure(0), tied(1), unsure(1));
    }

    /** 16, 23, Terms: "or when there is but one act". */
    private static void noNextCostOfOneAct() {
        track("one act", 1).after(row(0, 0, 0), margin(100000), run()).no(tied(0), unsure(0));
        track("two acts", 2).after(row(0, 0, 0), margin(100000), run()).yes(tied(0), unsure(0));
    }

    /** 16, 23: "or no such row". */
    private static void noNextCostOfNoSuchRow() {
        Track x = track("rows of next costs", 2).after(row(0, 0, 0), row(1, 0, 0), run());
        x.no(unsure(-1), unsure(2), unsure(MIN), unsure(MAX)).no(tied(-1), tied(2), tied(MIN), tied(MAX));
        x.yes(unsure(0), unsure(1), tied(0), tied(1));
        x.yes(row(2, 0, 0)).no(unsure(2), tied(2)).due(0, run()).yes(unsure(2), tied(2)).no(unsure(3), tied(3));
    }

    /** 16, 23: "or no run". */
    private static void noNextCostWithoutARun() {
        Track x = track("next costs without a run", 2).no(unsure(0), tied(0)).yes(row(0, 0, 0)).no(unsure(0), tied(0));
        x.due(0, run()).yes(unsure(0), tied(0));
    }

    /** Terms: "with costs, truths and rows as they were then". */
    private static void nextCostsOfARunStay() {
        Track x = gap(3).yes(margin(3), speed(1, 0, 50), unsure(0)).no(tied(0)).yes(truth(0, 0), unsure(0));
        x.due(50, run()).no(unsure(0), tied(0));
        Track y = gap(0).yes(speed(1, 0, 60), tied(0), unsure(0)).due(50, run()).no(tied(0), unsure(0));
        y.yes(speed(0, 0, 60)).no(tied(0)).due(60, run()).yes(tied(0));
    }
}
