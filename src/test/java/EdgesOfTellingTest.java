/**
 * The edges of what is told, each from both sides: promises 1 to 4, 8, 15, 17, 19 and 21.
 * What stands in quotes is the document's sentence that a test holds to.
 */
public final class EdgesOfTellingTest extends Calls {
    private static final Check CHECK = new Check("EdgesOfTellingTest");
    private static final long LAST = Long.MAX_VALUE;

    public static void main(String[] args) {
        belowOneActThereIsOne();
        aboveTwelveActsThereAreTwelve();
        aNewObjectHasNoRows();
        costsAreZeroAtFirst();
        moveWithoutSuchActs();
        moveWithoutSuchACost();
        speedWithoutSuchAnAct();
        speedWithoutSuchACost();
        speedWithoutSuchAClass();
        rowBehindTwoHundred();
        rowBelowSecondZero();
        rowNotAboveTheOneBefore();
        rowAtTheLastSecond();
        rowWithoutSuchAClass();
        rowWithoutSuchATurn();
        refusedRowLeavesTheSecondFree();
        truthWithoutSuchARow();
        truthWithoutSuchAnAct();
        truthFromNowOn();
        pageWithoutSuchAnAct();
        pageThatBeginsTooEarly();
        pageThatEndsTooEarly();
        pageBehindFifty();
        marginOutOfRange();
        marginIsZeroAtFirst();
        cellWithoutSuchARow();
        cellBesideTheMap();
        cellForNoSuchTime();
        cellBehindThreeHundred();
        cellsAddUp();
        shipOutOfRange();
        shipIsZeroAtFirst();
        shipOfRowsThatComeNow();
        CHECK.end();
    }

    private static Track track(String about, int acts) {
        return new Track(CHECK, about, acts);
    }

    /** Every call that takes an act knows the same acts 0 .. acts - 1. */
    private static void checkActs(int told, int acts) {
        Track x = track("new ActChains(" + told + ")", told);
        x.yes(row(0, 0, 0));
        x.due(0, run());
        for (int act : new int[] {0, acts - 1}) {
            x.yes(move(act, 0, 0), move(0, act, 0), speed(act, 0, 0), page(0, 1, act), truth(0, act));
            x.due(0, hours(act));
        }
        for (int act : new int[] {MIN, -1, acts, acts + 1, MAX}) {
            x.no(move(act, 0, 0), move(0, act, 0), speed(act, 0, 0), page(0, 1, act), truth(0, act));
            x.none(hours(act));
        }
    }

    /** 1: "below 1 there is 1". */
    private static void belowOneActThereIsOne() {
        checkActs(MIN, 1);
        checkActs(-1, 1);
        checkActs(0, 1);
        checkActs(1, 1);
        checkActs(2, 2);
    }

    /** 1: "above 12 there are 12". */
    private static void aboveTwelveActsThereAreTwelve() {
        checkActs(11, 11);
        checkActs(12, 12);
        checkActs(13, 12);
        checkActs(MAX, 12);
    }

    /** 1: "no rows". */
    private static void aNewObjectHasNoRows() {
        Track x = track("no rows", 4);
        x.none(run(), night(0), fit(1), leftOut(0), act(0), total()).no(truth(0, 0), cell(0, 0, 0, 1), greatest());
        x.yes(row(0, 0, 0), truth(0, 0), cell(0, 0, 0, 1));
        x.due(0, leftOut(0), run(), fit(1), act(0), total()).due(1, night(0)).yes(greatest());
    }

    /** Terms: "all are 0 at first", of changes and of acts for classes. */
    private static void costsAreZeroAtFirst() {
        Track x = track("costs at first", 12);
        for (int cls = 0; cls < 10; cls++) {
            x.yes(row(cls, cls, 0));
        }
        for (int act = 0; act < 12; act++) {
            for (int k = 0; k < 10; k++) {
                x.yes(truth(k, act));
            }
            x.due(0, run());
        }
        Track y = track("changes at first", 12).after(row(0, 0, 0), row(1, 0, 0));
        for (int from = 0; from < 12; from++) {
            y.yes(truth(0, from));
            for (int to = 0; to < 12; to++) {
                y.yes(truth(1, to)).due(0, run());
            }
        }
    }

    /** Two rows whose truths are the two acts, so that a run costs just what the change does. */
    private static Track change(String about, int acts, int from, int to) {
        return track(about, acts).after(row(0, 0, 0), row(1, 0, 0), truth(0, from), truth(1, to));
    }

    /** 2: "False when there are no such acts". */
    private static void moveWithoutSuchActs() {
        change("a change from the last act", 4, 3, 0).no(move(4, 0, 7), move(MAX, 0, 7)).due(0, run())
            .yes(move(3, 0, 7)).due(7, run());
        change("a change from the first act", 4, 0, 3).no(move(-1, 3, 7), move(MIN, 3, 7)).due(0, run())
            .yes(move(0, 3, 7)).due(7, run());
        change("a change to the last act", 4, 0, 3).no(move(0, 4, 7), move(0, MAX, 7)).due(0, run())
            .yes(move(0, 3, 7)).due(7, run()).no(move(0, 4, 9)).due(7, run());
        change("a change to the first act", 4, 3, 0).no(move(3, -1, 7), move(3, MIN, 7)).due(0, run())
            .yes(move(3, 0, 7)).due(7, run()).no(move(3, -1, 9)).due(7, run());
        change("a change to itself", 12, 11, 11).no(move(12, 12, 7)).yes(move(11, 11, 7)).due(7, run());
        change("a change the other way", 2, 0, 1).yes(move(1, 0, 7)).due(0, run());
    }

    /** 2: "or cost is not 0 .. 10000". */
    private static void moveWithoutSuchACost() {
        Track x = change("the cost of a change", 3, 1, 2).yes(move(1, 2, 10000)).due(10000, run());
        x.no(move(1, 2, 10001), move(1, 2, MAX)).due(10000, run());
        x.yes(move(1, 2, 9999)).due(9999, run());
        x.yes(move(1, 2, 0)).due(0, run());
        x.yes(move(1, 2, 1)).due(1, run());
        x.no(move(1, 2, -1), move(1, 2, MIN)).due(1, run());
    }

    /** One row with a truth, so that a run costs just what the act does for the class. */
    private static Track rowOf(String about, int act, int cls) {
        return track(about, 4).after(row(0, cls, 0), truth(0, act));
    }

    /** 3: "False likewise", of acts. */
    private static void speedWithoutSuchAnAct() {
        rowOf("the cost of the last act", 3, 5).no(speed(4, 5, 7), speed(MAX, 5, 7)).due(0, run())
            .yes(speed(3, 5, 7)).due(7, run());
        rowOf("the cost of the first act", 0, 5).no(speed(-1, 5, 7), speed(MIN, 5, 7)).due(0, run())
            .yes(speed(0, 5, 7)).due(7, run());
    }

    /** 3: "False likewise", of costs. */
    private static void speedWithoutSuchACost() {
        Track x = rowOf("the cost of an act", 2, 5).yes(speed(2, 5, 10000)).due(10000, run());
        x.no(speed(2, 5, 10001), speed(2, 5, MAX)).due(10000, run());
        x.yes(speed(2, 5, 9999)).due(9999, run());
        x.yes(speed(2, 5, 0)).due(0, run());
        x.yes(speed(2, 5, 1)).due(1, run());
        x.no(speed(2, 5, -1), speed(2, 5, MIN)).due(1, run());
    }

    /** 3: "or when cls is not 0 .. 9". */
    private static void speedWithoutSuchAClass() {
        rowOf("the last class", 1, 9).no(speed(1, 10, 7), speed(1, MAX, 7)).due(0, run())
            .yes(speed(1, 9, 7)).due(7, run()).no(speed(1, 10, 8)).due(7, run());
        rowOf("the first class", 1, 0).no(speed(1, -1, 7), speed(1, MIN, 7)).due(0, run())
            .yes(speed(1, 0, 7)).due(7, run()).no(speed(1, -1, 8)).due(7, run());
        rowOf("a class besides", 1, 4).yes(speed(1, 3, 7), speed(1, 5, 7)).due(0, run());
    }

    /** 4: "False when there are 200". */
    private static void rowBehindTwoHundred() {
        Track x = track("rows", 2);
        for (int k = 0; k < 199; k++) {
            x.yes(row(k, k % 10, k % 4));
        }
        x.none(night(199)).no(truth(199, 0));
        x.yes(row(199, 9, 3));
        x.due(1, night(199)).yes(truth(199, 0));
        x.no(row(200, 0, 0), row(LAST, 9, 3), row(199, 0, 0), row(-1, 0, 0));
        x.none(night(200)).no(truth(200, 0)).due(0, run()).due(199, total()).due(0, act(199)).none(act(200));
    }

    /** 4: "or second is below 0". */
    private static void rowBelowSecondZero() {
        Track x = track("the first second", 1);
        x.no(row(-1, 0, 0), row(Long.MIN_VALUE, 0, 0), row(MIN, 0, 0)).none(run());
        x.yes(row(0, 0, 0)).due(0, run());
        x.no(row(-1, 0, 0)).none(night(1));
    }

    /** 4: "or not above that of the row before". */
    private static void rowNotAboveTheOneBefore() {
        Track x = track("rising seconds", 1).yes(row(10, 0, 0));
        x.no(row(9, 0, 0), row(10, 0, 0), row(0, 0, 0)).none(night(1));
        x.yes(row(11, 0, 0)).no(row(11, 0, 0), row(10, 0, 0)).none(night(2));
        x.yes(row(12, 0, 0)).due(0, run()).due(2, total());
        long late = 1L << 32;
        track("seconds above 2^32", 1).yes(row(late, 0, 0)).no(row(late - 1, 0, 0), row(late, 0, 0), row(1, 0, 0))
            .yes(row(late + 1, 0, 0)).due(0, run()).due(1, total());
    }

    /** 4: no second is above the last one there is, and none comes round again. */
    private static void rowAtTheLastSecond() {
        Track x = track("the last second", 1).yes(row(LAST - 1, 0, 0), row(LAST, 0, 0));
        x.no(row(LAST, 0, 0), row(LAST - 1, 0, 0), row(0, 0, 0), row(Long.MIN_VALUE, 0, 0));
        x.none(night(2)).due(0, run()).due(1, total());
    }

    /** 4: "or cls not 0 .. 9". */
    private static void rowWithoutSuchAClass() {
        Track x = track("classes of rows", 1).after(speed(0, 0, 10), speed(0, 9, 200));
        x.no(row(0, -1, 0), row(0, 10, 0), row(0, MIN, 0), row(0, MAX, 0)).none(run());
        x.yes(row(0, 0, 0)).due(10, run());
        x.yes(row(1, 9, 0)).due(210, run());
        x.no(row(2, 10, 0), row(2, -1, 0)).due(210, run());
    }

    /** 4: "or turn not 0 .. 3". */
    private static void rowWithoutSuchATurn() {
        Track x = track("turns of rows", 4);
        x.no(row(0, 0, -1), row(0, 0, 4), row(0, 0, MIN), row(0, 0, MAX)).none(run());
        x.yes(row(0, 0, 0), truth(0, 3), row(1, 0, 1), truth(1, 0), row(2, 0, 3), truth(2, 3)).due(0, run());
        x.due(0, gear(0)).due(1, gear(1)).no(row(3, 0, 4), row(3, 0, -1)).none(night(3));
    }

    /** Terms: "What is refused changes nothing", of the second that the next row must be above. */
    private static void refusedRowLeavesTheSecondFree() {
        Track x = track("a refused row's second", 1);
        x.no(row(100, 10, 0), row(100, 0, 4)).yes(row(0, 0, 0));
        x.no(row(100, -1, 0), row(100, 0, -1)).yes(row(1, 0, 0));
    }

    /** 8: "False when there is no such row". */
    private static void truthWithoutSuchARow() {
        Track x = track("rows of truths", 3).no(truth(0, 1)).after(row(0, 0, 0));
        x.no(truth(-1, 1), truth(1, 1), truth(MIN, 1), truth(MAX, 1)).due(0, run()).due(0, act(0));
        x.yes(truth(0, 1)).after(row(1, 0, 0)).due(0, run()).due(1, act(0)).due(0, act(1));
        x.yes(truth(1, 2)).no(truth(2, 2)).due(0, run()).due(2, act(1));
    }

    /** 8: "or act". */
    private static void truthWithoutSuchAnAct() {
        Track x = track("acts of truths", 3).after(row(0, 0, 0), speed(0, 0, 5));
        x.no(truth(0, -1), truth(0, 3), truth(0, MIN), truth(0, MAX)).due(0, run()).due(1, act(0));
        x.yes(truth(0, 0)).due(5, run()).due(0, act(0));
        x.no(truth(0, 3), truth(0, -1)).due(5, run()).due(0, act(0));
        x.yes(truth(0, 2)).due(0, run()).due(2, act(0));
    }

    /** 8: "from now on": of the next run, not of the latest one, and in place of an earlier truth. */
    private static void truthFromNowOn() {
        Track x = track("truths from now on", 3).after(row(0, 0, 0), run());
        x.yes(truth(0, 2)).due(0, act(0)).yes(tied(0));
        x.due(0, run()).due(2, act(0)).no(tied(0));
        x.yes(truth(0, 1)).due(2, act(0)).due(0, run()).due(1, act(0));
    }

    /** 15: "False when there is no such act". */
    private static void pageWithoutSuchAnAct() {
        Track x = track("acts of pages", 3).after(row(5, 0, 0), run());
        x.no(page(0, 10, -1), page(0, 10, 3), page(0, 10, MIN), page(0, 10, MAX)).none(differs(0, 0));
        x.yes(page(0, 10, 2)).due(0, differs(0, 0)).due(2, differs(0, 1));
        x.no(page(0, 10, 3)).due(2, differs(0, 1));
        x.yes(page(0, 10, 0)).none(differs(0, 0));
    }

    /** 15: "or it is not 0 <= from". */
    private static void pageThatBeginsTooEarly() {
        Track x = track("the first second of pages", 2).after(row(0, 0, 0), run());
        x.no(page(-1, 10, 1), page(Long.MIN_VALUE, 10, 1), page(-5, -3, 1)).none(differs(0, 0));
        x.yes(page(0, 10, 1)).due(0, differs(0, 0));
    }

    /** 15: "or it is not from < to". */
    private static void pageThatEndsTooEarly() {
        Track x = track("the end of pages", 2).after(row(5, 0, 0), run());
        x.no(page(5, 5, 1), page(5, 4, 1), page(5, 0, 1), page(5, Long.MIN_VALUE, 1)).none(differs(0, 0));
        x.yes(page(5, 6, 1)).due(0, differs(0, 0));
        Track y = track("the last second of pages", 2).after(row(LAST - 1, 0, 0), run());
        y.no(page(LAST, LAST, 1)).yes(page(LAST - 1, LAST, 1)).due(0, differs(0, 0));
        long late = 1L << 32;
        track("pages above 2^32", 2).no(page(late, 1, 1), page(late, late, 1)).yes(page(1, late, 1), page(0, LAST, 1));
    }

    /** 15: "or there are 50". */
    private static void pageBehindFifty() {
        Track x = track("pages", 3).after(row(60, 0, 0), run());
        for (int i = 0; i < 49; i++) {
            x.yes(page(i, i + 1, 1));
        }
        x.no(page(60, 61, 3), page(60, 60, 1), page(-1, 61, 1)).none(differs(0, 0));
        x.yes(page(60, 61, 1)).due(1, differs(0, 1));
        x.no(page(60, 61, 2), page(60, 61, 0)).due(1, differs(0, 1)).due(0, differs(0, 0));
    }

    /** Two acts for one row, the second one dearer by so much. */
    private static Track gap(String about, int above) {
        return track(about, 2).after(row(0, 0, 0), speed(1, 0, above)).due(0, run());
    }

    /** 17: "False when v is not 0 .. 100000". */
    private static void marginOutOfRange() {
        gap("the least margin", 1).yes(margin(1)).no(margin(-1), margin(MIN)).yes(unsure(0), margin(0)).no(unsure(0));
        gap("the greatest margin", 1).no(margin(100001), margin(MAX), unsure(0)).yes(margin(100000), unsure(0));
        gap("a refused margin", 5).yes(margin(4)).no(margin(100001), margin(-1), unsure(0)).yes(margin(5), unsure(0));
    }

    /** 17: "0 at first". */
    private static void marginIsZeroAtFirst() {
        gap("the margin at first", 0).yes(unsure(0));
        gap("above the margin at first", 1).no(unsure(0));
    }

    private static Track hauling(String about) {
        return track(about, 4).after(row(0, 0, 0), row(1, 0, 0), truth(0, 3), truth(1, 3));
    }

    /** 19: "False when there is no such row". */
    private static void cellWithoutSuchARow() {
        track("a cell without rows", 4).no(cell(0, 0, 0, 1)).after(row(0, 0, 0)).yes(cell(0, 0, 0, 1));
        Track x = hauling("rows of cells")
            .no(cell(-1, 4, 4, 1), cell(2, 4, 4, 1), cell(MIN, 4, 4, 1), cell(MAX, 4, 4, 1));
        x.due(0, run()).due(0, map(4, 4));
        x.yes(cell(0, 4, 4, 1), cell(1, 4, 4, 10)).due(11, map(4, 4));
        x.no(cell(2, 4, 4, 1)).after(row(2, 0, 0)).yes(cell(2, 4, 4, 100)).no(cell(3, 4, 4, 1));
        x.due(11, map(4, 4)).yes(truth(2, 3)).due(0, run()).due(111, map(4, 4));
    }

    /** 19: "or x or y is not 0 .. 19". */
    private static void cellBesideTheMap() {
        Track x = hauling("the map's sides").due(0, run());
        x.no(cell(0, -1, 0, 1), cell(0, 20, 0, 1), cell(0, MIN, 0, 1), cell(0, MAX, 0, 1));
        x.no(cell(0, 0, -1, 1), cell(0, 0, 20, 1), cell(0, 0, MIN, 1), cell(0, 0, MAX, 1));
        x.no(cell(0, 1, -20, 1), cell(0, -1, 20, 1));
        for (int side : new int[] {0, 1, 18, 19}) {
            x.due(0, map(side, 0), map(side, 19), map(0, side), map(19, side));
        }
        x.yes(cell(0, 0, 0, 2), cell(0, 19, 0, 3), cell(0, 0, 19, 4), cell(0, 19, 19, 5));
        x.due(2, map(0, 0)).due(3, map(19, 0)).due(4, map(0, 19)).due(5, map(19, 19)).due(0, map(1, 0), map(0, 1));
    }

    /** 19: "or seconds not 1 .. 1000000". */
    private static void cellForNoSuchTime() {
        Track x = hauling("the time in a cell").due(0, run());
        x.no(cell(0, 7, 8, 0), cell(0, 7, 8, -1), cell(0, 7, 8, Long.MIN_VALUE)).due(0, map(7, 8));
        x.no(cell(0, 7, 8, 1000001), cell(0, 7, 8, (1L << 32) + 1), cell(0, 7, 8, LAST)).due(0, map(7, 8));
        x.yes(cell(0, 7, 8, 1)).due(1, map(7, 8));
        x.yes(cell(0, 7, 8, 1000000)).due(1000001, map(7, 8));
    }

    /** 19: "or 300 such were told". */
    private static void cellBehindThreeHundred() {
        Track x = hauling("cells").due(0, run());
        for (int i = 0; i < 299; i++) {
            x.yes(cell(i % 2, i % 20, 0, 1000000));
        }
        x.no(cell(2, 3, 3, 9), cell(0, 20, 3, 9), cell(0, 3, 3, 0)).due(0, map(3, 3));
        x.yes(cell(0, 3, 3, 9)).due(9, map(3, 3));
        x.no(cell(0, 3, 3, 9), cell(1, 5, 5, 1), cell(0, 0, 0, 1)).due(9, map(3, 3)).due(0, map(5, 5));
        x.due(15000000, map(0, 0)).due(14000000, map(19, 0));
    }

    /** 19: "besides what was told before". */
    private static void cellsAddUp() {
        Track x = hauling("a cell told again").due(0, run())
            .yes(cell(0, 2, 2, 30), cell(0, 2, 2, 30), cell(0, 2, 3, 5));
        x.due(60, map(2, 2)).due(5, map(2, 3)).yes(cell(1, 2, 2, 1)).due(61, map(2, 2));
    }

    /** Which ship the next row is of, seen from where its truth is left out. */
    private static void checkShip(Track x, int row, int ship) {
        x.yes(row(row, 0, 0)).yes(truth(row, 1));
        for (int s = 0; s < 10; s++) {
            x.due(s == ship ? 1000 : ActChains.NONE, leftOut(s));
        }
    }

    /** 21: "False when s is not 0 .. 9". */
    private static void shipOutOfRange() {
        checkShip(track("the first ship", 2).yes(ship(5), ship(0)).no(ship(-1), ship(MIN)), 0, 0);
        checkShip(track("the last ship", 2).yes(ship(9)).no(ship(10), ship(MAX)), 0, 9);
        checkShip(track("a refused ship", 2).yes(ship(4)).no(ship(-1), ship(10), ship(-4), ship(14)), 0, 4);
    }

    /** Terms: "(0 at first)", of ships. */
    private static void shipIsZeroAtFirst() {
        checkShip(track("the ship at first", 2), 0, 0);
        checkShip(track("the ship at first", 2).no(ship(10), ship(-1)), 0, 0);
    }

    /** 21: "Rows that come now are of a ship": those that were there stay of theirs. */
    private static void shipOfRowsThatComeNow() {
        Track x = track("rows of two ships", 2).yes(row(0, 0, 0), ship(9), row(1, 0, 0), ship(3), truth(0, 1));
        x.due(1000, leftOut(0)).none(leftOut(9), leftOut(3));
        x.yes(truth(1, 0)).due(0, leftOut(9)).due(1000, leftOut(0)).none(leftOut(3));
        x.yes(row(2, 0, 0), truth(2, 1)).due(1000, leftOut(3)).due(0, leftOut(9));
    }
}
