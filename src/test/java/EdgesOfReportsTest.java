/**
 * The edges of what is asked of the best line and of rows, each from both sides: promises 12, 13, 14, 18, 20, 22
 * and 24. What stands in quotes is the document's sentence that a test holds to.
 */
public final class EdgesOfReportsTest extends Calls {
    private static final Check CHECK = new Check("EdgesOfReportsTest");
    private static final long TOP = Integer.MAX_VALUE;
    private static final long LAST = Long.MAX_VALUE;

    public static void main(String[] args) {
        hoursWithoutSuchAnAct();
        hoursWithoutARun();
        lastRowLastsForNoTime();
        hoursUpToTheLastSecond();
        haulWithoutSuchAHaul();
        haulWithoutSuchAnEnd();
        haulWithoutARun();
        haulAboveTheGreatestInt();
        haulIsAsLongAsCanBe();
        haulOfTheLatestRun();
        differsWithoutSuchARow();
        differsWithoutSuchAQuestion();
        differsWithoutARun();
        differsFromThePagesFirstSecondToItsLast();
        differsFromAnotherActAlone();
        differsFromTheLaterPage();
        differsInTheLatestRunAlone();
        mapBesideTheMap();
        mapWithoutARun();
        mapOfHaulingRowsAlone();
        gearWithoutSuchAHaul();
        gearWithoutARun();
        gearOfMoreThanHalf();
        gearOfTurnsFromTwoOn();
        totalWithoutARun();
        totalOfTheLatestRun();
        nightWithoutSuchARow();
        nightWithinADay();
        nightOfALaterDay();
        CHECK.end();
    }

    private static Track track(String about, int acts) {
        return new Track(CHECK, about, acts);
    }

    /** Rows one second apart, from second 0 on, with these acts as their truths; the run is made. */
    private static Track withActs(String about, int acts, int... truths) {
        Track x = track(about, acts);
        for (int k = 0; k < truths.length; k++) {
            x.yes(row(k, 0, 0), truth(k, truths[k]));
        }
        return x.due(0, run());
    }

    /** 12: "NONE when there is no such act". */
    private static void hoursWithoutSuchAnAct() {
        Track x = withActs("acts of hours", 3, 0, 2, 2, 0);
        x.due(1, hours(0)).due(0, hours(1)).due(2, hours(2)).none(hours(-1), hours(3), hours(MIN), hours(MAX));
        withActs("hours of one act", 1, 0, 0).due(1, hours(0)).none(hours(1), hours(-1));
        withActs("hours of twelve acts", 12, 11, 11).due(1, hours(11)).none(hours(12));
    }

    /** 12: "or no run". */
    private static void hoursWithoutARun() {
        Track x = track("hours without a run", 2).none(hours(0)).yes(row(0, 0, 0), row(5, 0, 0))
            .none(hours(0), hours(1));
        x.due(0, run()).due(5, hours(0)).due(0, hours(1));
    }

    /** Terms: "the last one for no time", of the latest run's rows. */
    private static void lastRowLastsForNoTime() {
        Track x = withActs("one row", 2, 1).due(0, hours(1), total()).yes(row(8, 0, 0), truth(1, 0));
        x.due(0, hours(1), hours(0), total()).due(0, run()).due(8, hours(1), total()).due(0, hours(0));
    }

    /** 12: seconds up to the greatest long. */
    private static void hoursUpToTheLastSecond() {
        Track x = track("the last second", 2).yes(row(0, 0, 0), row(1, 0, 0), row(LAST, 0, 0), truth(0, 1));
        x.due(0, run()).due(LAST, total()).due(LAST - 1, hours(0)).due(1, hours(1));
    }

    /** 13: "NONE when there is none such". */
    private static void haulWithoutSuchAHaul() {
        Track x = withActs("hauls", 4, 3, 0, 3, 3, 1);
        x.due(0, haul(0, 0)).due(1, haul(0, 1)).due(2, haul(1, 0)).due(4, haul(1, 1));
        x.none(haul(2, 0), haul(2, 1), haul(-1, 0), haul(-1, 1), haul(MIN, 0), haul(MAX, 1));
        withActs("no haul", 4, 2, 2).none(haul(0, 0), haul(0, 1), gear(0));
        withActs("three acts", 3, 2, 2).none(haul(0, 0), haul(0, 1), gear(0));
    }

    /** 13: "for others", of end. */
    private static void haulWithoutSuchAnEnd() {
        Track x = withActs("ends of a haul", 4, 0, 3, 3, 0).due(1, haul(0, 0)).due(3, haul(0, 1));
        x.none(haul(0, -1), haul(0, 2), haul(0, MIN), haul(0, MAX), haul(1, 2));
    }

    /** 13: "before a run". */
    private static void haulWithoutARun() {
        Track x = track("a haul without a run", 4).none(haul(0, 0), haul(0, 1)).yes(row(7, 0, 0), truth(0, 3));
        x.none(haul(0, 0), haul(0, 1)).due(0, run()).due(7, haul(0, 0), haul(0, 1));
    }

    /** A haul of one row that begins and ends at these seconds. */
    private static Track haulAt(long begin, long end) {
        return track("a haul from " + begin + " to " + end, 4).yes(row(begin, 0, 0), row(end, 0, 0), truth(0, 3))
            .due(0, run());
    }

    /** 13: "or when that is above 2^31 - 1", of the end that is asked for alone. */
    private static void haulAboveTheGreatestInt() {
        haulAt(TOP - 1, TOP).due(TOP - 1, haul(0, 0)).due(TOP, haul(0, 1));
        haulAt(TOP, TOP + 1).due(TOP, haul(0, 0)).none(haul(0, 1));
        haulAt(TOP + 1, TOP + 2).none(haul(0, 0), haul(0, 1)).due(0, gear(0)).due(1, hours(3));
        haulAt(5, (1L << 32) + 5).due(5, haul(0, 0)).none(haul(0, 1));
        haulAt(1L << 32, LAST).none(haul(0, 0), haul(0, 1));
        haulAt(0, LAST).due(0, haul(0, 0)).none(haul(0, 1));
    }

    /** Terms: "as many as can be one after the other", from the first row to the last and over ships. */
    private static void haulIsAsLongAsCanBe() {
        withActs("all rows", 4, 3, 3, 3).due(0, haul(0, 0)).due(2, haul(0, 1)).none(haul(1, 0));
        withActs("the last row", 4, 0, 3).due(1, haul(0, 0), haul(0, 1)).none(haul(1, 0));
        withActs("the first row", 5, 3, 4).due(0, haul(0, 0)).due(1, haul(0, 1)).none(haul(1, 0));
        Track x = track("two ships", 4).yes(row(0, 0, 0), ship(1), row(9, 0, 0), truth(0, 3), truth(1, 3))
            .due(0, run());
        x.due(9, haul(0, 1)).none(haul(1, 0));
        Track most = track("the most hauls", 4);
        for (int k = 0; k < 200; k++) {
            most.after(row(k, 0, 0));
        }
        for (int k = 0; k < 200; k += 2) {
            most.after(truth(k, 3));
        }
        most.due(0, run()).due(198, haul(99, 0)).due(199, haul(99, 1)).none(haul(100, 0), gear(100)).due(0, gear(99));
    }

    /** Terms: "rows as they were then". */
    private static void haulOfTheLatestRun() {
        Track x = withActs("a row behind a haul", 4, 3).yes(row(50, 0, 2), truth(1, 3)).due(0, haul(0, 1), gear(0));
        x.due(0, run()).due(50, haul(0, 1)).due(0, gear(0)).none(haul(1, 0));
    }

    /** 14: "NONE when there is none such". */
    private static void differsWithoutSuchARow() {
        Track x = withActs("rows that differ", 2, 0, 1, 0).none(differs(0, 0)).yes(page(0, 3, 1));
        x.due(0, differs(0, 0)).due(1, differs(0, 1)).due(2, differs(1, 0)).due(1, differs(1, 1));
        x.none(differs(2, 0), differs(2, 1), differs(-1, 0), differs(-1, 1), differs(MIN, 0), differs(MAX, 1));
    }

    /** 14: "for others", of what. */
    private static void differsWithoutSuchAQuestion() {
        Track x = withActs("what differs", 3, 0).yes(page(0, 1, 2)).due(0, differs(0, 0)).due(2, differs(0, 1));
        x.none(differs(0, -1), differs(0, 2), differs(0, MIN), differs(0, MAX), differs(1, 2));
    }

    /** 14: "or before a run". */
    private static void differsWithoutARun() {
        Track x = track("differing without a run", 2).yes(page(0, 9, 1)).none(differs(0, 0)).yes(row(0, 0, 0));
        x.none(differs(0, 0), differs(0, 1)).due(0, run()).due(0, differs(0, 0)).due(1, differs(0, 1));
    }

    /** 15: "from a second to before another one". */
    private static void differsFromThePagesFirstSecondToItsLast() {
        Track x = withActs("a page's seconds", 2, 0, 0, 0, 0, 0).yes(page(1, 3, 1));
        x.due(1, differs(0, 0)).due(2, differs(1, 0)).none(differs(2, 0)).yes(page(4, LAST, 1)).due(4, differs(2, 0));
        track("the last second of a page", 2).yes(row(LAST - 1, 0, 0), row(LAST, 0, 0), page(0, LAST, 1)).due(0, run())
            .due(0, differs(0, 0)).none(differs(1, 0));
    }

    /** 14: "with another act than its own". */
    private static void differsFromAnotherActAlone() {
        Track x = withActs("the page's act", 3, 0, 1, 2).yes(page(0, 3, 1)).due(0, differs(0, 0)).due(2, differs(1, 0));
        x.none(differs(2, 0)).yes(truth(0, 1), truth(1, 0)).due(0, differs(0, 0)).due(0, run()).due(1, differs(0, 0));
    }

    /** 14: "of pages that were told twice for a second the later one counts". */
    private static void differsFromTheLaterPage() {
        Track x = withActs("pages told twice", 3, 0, 0, 0).yes(page(0, 3, 1), page(1, 2, 0));
        x.due(0, differs(0, 0)).due(2, differs(1, 0)).none(differs(2, 0));
        x.yes(page(0, 2, 2)).due(2, differs(0, 1)).due(1, differs(1, 0)).due(2, differs(1, 1)).due(1, differs(2, 1));
        x.yes(page(0, 3, 0)).none(differs(0, 0)).yes(page(2, 3, 1)).due(2, differs(0, 0)).none(differs(1, 0));
        x.no(page(2, 2, 0), page(2, 3, 3), page(-1, 3, 0)).due(2, differs(0, 0));
    }

    /** 14: "row of the latest run". */
    private static void differsInTheLatestRunAlone() {
        Track x = withActs("a row behind the run", 2, 0).yes(page(0, 9, 1), row(1, 0, 0)).due(0, differs(0, 0));
        x.none(differs(1, 0)).due(0, run()).due(1, differs(1, 0)).none(differs(2, 0));
    }

    /** 18: "NONE when x or y is not 0 .. 19". */
    private static void mapBesideTheMap() {
        Track x = withActs("the map's sides", 4, 3).yes(cell(0, 0, 0, 1), cell(0, 19, 19, 2), cell(0, 0, 19, 3));
        x.due(1, map(0, 0)).due(2, map(19, 19)).due(3, map(0, 19)).due(0, map(19, 0));
        x.none(map(-1, 0), map(20, 0), map(MIN, 0), map(MAX, 0)).none(map(0, -1), map(0, 20), map(0, MIN), map(0, MAX));
        x.none(map(-1, 20), map(20, -1), map(-1, 19), map(1, -20));
    }

    /** 18: "or before a run". */
    private static void mapWithoutARun() {
        Track x = track("a map without a run", 4).none(map(0, 0)).yes(row(0, 0, 0), truth(0, 3), cell(0, 0, 0, 7));
        x.none(map(0, 0), map(20, 0)).due(0, run()).due(7, map(0, 0)).due(0, map(1, 1)).none(map(20, 0));
    }

    /** 18: "the rows of the latest run whose act is 3", with cells as they are now. */
    private static void mapOfHaulingRowsAlone() {
        Track x = withActs("rows on the map", 5, 2, 3, 4)
            .yes(cell(0, 1, 1, 10), cell(1, 1, 1, 200), cell(2, 1, 1, 3000));
        x.due(200, map(1, 1)).yes(row(9, 0, 0), truth(3, 3), truth(0, 3), cell(3, 1, 1, 40000)).due(200, map(1, 1));
        x.due(0, run()).due(40210, map(1, 1)).yes(cell(1, 1, 1, 5)).due(40215, map(1, 1));
    }

    /** 20: "NONE when there is none such". */
    private static void gearWithoutSuchAHaul() {
        Track x = withActs("gears", 4, 3, 0, 3).due(0, gear(0), gear(1)).none(gear(2), gear(-1), gear(MIN), gear(MAX));
        x.yes(truth(0, 0)).due(0, gear(1)).due(0, run()).due(0, gear(0)).none(gear(1));
    }

    /** 20: "or before a run". */
    private static void gearWithoutARun() {
        Track x = track("a gear without a run", 4).none(gear(0)).yes(row(0, 0, 2), truth(0, 3)).none(gear(0));
        x.due(0, run()).due(1, gear(0));
    }

    /** One haul, the first rows of which have a turn of 2. */
    private static Track haulOf(int rows, int turning) {
        Track x = track(turning + " of " + rows + " rows turn", 4);
        for (int k = 0; k < rows; k++) {
            x.after(row(k, 0, k < turning ? 2 : 1), truth(k, 3));
        }
        return x.due(0, run());
    }

    /** 20: "1 when more than half of its rows". */
    private static void gearOfMoreThanHalf() {
        haulOf(1, 0).due(0, gear(0));
        haulOf(1, 1).due(1, gear(0));
        haulOf(2, 1).due(0, gear(0));
        haulOf(2, 2).due(1, gear(0));
        haulOf(3, 1).due(0, gear(0));
        haulOf(3, 2).due(1, gear(0));
        haulOf(200, 100).due(0, gear(0));
        haulOf(200, 101).due(1, gear(0));
    }

    /** 20: "have a turn of 2 or more", of the haul's own rows. */
    private static void gearOfTurnsFromTwoOn() {
        for (int turn = 0; turn < 4; turn++) {
            track("a turn of " + turn, 4).yes(row(0, 0, turn), truth(0, 3)).due(0, run())
                .due(turn < 2 ? 0 : 1, gear(0));
        }
        Track x = track("turns besides the haul", 4).yes(row(0, 0, 3), row(1, 0, 1), row(2, 0, 3), truth(1, 3))
            .due(0, run());
        x.due(0, gear(0)).yes(truth(2, 3)).due(0, run()).due(0, gear(0)).yes(truth(0, 3)).due(0, run()).due(1, gear(0));
    }

    /** 22: "NONE before a run". */
    private static void totalWithoutARun() {
        Track x = track("a total without a run", 2).none(total(), run(), total()).yes(row(4, 0, 0), row(9, 0, 0))
            .none(total());
        x.due(0, run()).due(5, total());
    }

    /** 22: "in the latest run". */
    private static void totalOfTheLatestRun() {
        Track x = withActs("a total", 3, 0).due(0, total()).yes(row(1000, 0, 0)).due(0, total(), run())
            .due(1000, total());
        x.no(row(1000, 0, 0)).due(1000, total()).yes(row(LAST, 0, 0)).due(1000, total()).due(0, run())
            .due(LAST, total());
    }

    /** 24: "NONE when there is no such row"; a row is there before a run, too. */
    private static void nightWithoutSuchARow() {
        Track x = track("rows of nights", 2).none(night(0)).yes(row(0, 0, 0)).due(1, night(0)).none(night(1));
        x.none(night(-1), night(MIN), night(MAX)).due(0, run()).yes(row(30000, 0, 0)).due(0, night(1)).none(night(2));
        x.no(row(30000, 0, 0)).none(night(2));
    }

    private static void checkNight(long second, int due) {
        track("night at " + second, 1).yes(row(second, 0, 0)).due(due, night(0));
    }

    /** 24: "before 21600 or not before 64800". */
    private static void nightWithinADay() {
        checkNight(0, 1);
        checkNight(21599, 1);
        checkNight(21600, 0);
        checkNight(64799, 0);
        checkNight(64800, 1);
        checkNight(86399, 1);
    }

    /** 24: "in its day (of 86400)", up to the last second there is, 55807 of its day. */
    private static void nightOfALaterDay() {
        for (long day : new long[] {1, 2, 24855, 49710, 100000000000000L}) {
            checkNight(86400 * day, 1);
            checkNight(86400 * day + 21599, 1);
            checkNight(86400 * day + 21600, 0);
            checkNight(86400 * day + 64799, 0);
            checkNight(86400 * day + 64800, 1);
            checkNight(86400 * day - 1, 1);
        }
        checkNight(LAST, 0);
        checkNight(LAST - (55807 - 21600), 0);
        checkNight(LAST - (55807 - 21599), 1);
    }
}
