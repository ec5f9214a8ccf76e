import java.util.ArrayList;
import java.util.List;

/**
 * The edges of fitting, each from both sides: promises 9 and 10, and what Terms says of rounds.
 * What stands in quotes is the document's sentence that a test holds to.
 */
public final class EdgesOfFittingTest extends Calls {
    private static final Check CHECK = new Check("EdgesOfFittingTest");

    /** Rows, three acts and costs with which more than 20 rounds one after the other are kept. */
    private static final String CLASSES =
        "20403233422314341441431404113241411330110223333110114110010130110304241211334";
    private static final int[][] CHANGES = {{435, 902, 587}, {161, 1932, 553}, {1543, 981, 1194}};
    private static final int[][] SPEEDS = {{2604, 2692, 139, 1991, 383}, {473, 217, 2035, 1951, 2865},
        {389, 2900, 30, 1659, 241}};

    public static void main(String[] args) {
        fitWithoutSuchRounds();
        fitWithoutRows();
        fitOfSoManyRoundsAtMost();
        fitEndsBeforeItsRounds();
        roundIsKeptWhenItCostsLess();
        roundThatIsNotKeptChangesNothing();
        costsAreRoundedDown();
        costsStayWhereNothingIsCounted();
        fittedCostsStay();
        fitIsARun();
        sumWithoutAFit();
        sumWithoutSuchARound();
        sumOfTheLatestFit();
        CHECK.end();
    }

    private static Track track(String about, int acts) {
        return new Track(CHECK, about, acts);
    }

    private static List<Call> longFit() {
        List<Call> telling = new ArrayList<>();
        for (int k = 0; k < CLASSES.length(); k++) {
            telling.add(row(k, CLASSES.charAt(k) - '0', 0));
        }
        for (int act = 0; act < CHANGES.length; act++) {
            for (int to = 0; to < CHANGES.length; to++) {
                telling.add(move(act, to, CHANGES[act][to]));
            }
            for (int cls = 0; cls < SPEEDS[act].length; cls++) {
                telling.add(speed(act, cls, SPEEDS[act][cls]));
            }
        }
        return telling;
    }

    /** What the best line costs before all rounds and behind each, as another search finds it. */
    private static List<Integer> longFitSums() {
        SecondSearch search = new SecondSearch(CHANGES.length, CLASSES.length());
        for (int k = 0; k < CLASSES.length(); k++) {
            search.classes[k] = CLASSES.charAt(k) - '0';
        }
        for (int act = 0; act < CHANGES.length; act++) {
            System.arraycopy(CHANGES[act], 0, search.changes[act], 0, CHANGES[act].length);
            System.arraycopy(SPEEDS[act], 0, search.speeds[act], 0, SPEEDS[act].length);
        }
        List<Integer> sums = new ArrayList<>(List.of(search.cost()));
        int last;
        do {
            last = sums.get(sums.size() - 1);
            search.fitCosts(search.line());
            sums.add(search.cost());
        } while (sums.get(sums.size() - 1) < last);
        return sums.subList(0, sums.size() - 1);
    }

    /** 9: "NONE when rounds is not 1 .. 20". */
    private static void fitWithoutSuchRounds() {
        Track x = track("rounds", 1).yes(row(0, 0, 0), speed(0, 0, 5));
        x.none(fit(0), fit(21), fit(-1), fit(MIN), fit(MAX)).no(greatest()).none(sum(0)).due(5, run());
        x.due(1, fit(1)).due(5, sum(0)).due(0, sum(1)).yes(speed(0, 0, 6)).due(1, fit(20)).due(6, sum(0));
        x.none(fit(0), fit(21)).due(6, sum(0)).due(0, sum(1));
    }

    /** 9: "or there are no rows". */
    private static void fitWithoutRows() {
        Track x = track("a fit without rows", 2).none(fit(1), fit(20), fit(0)).no(greatest()).none(sum(0));
        x.yes(row(0, 0, 0)).due(0, fit(1), sum(0)).yes(greatest());
    }

    /** 9: "so many rounds at most", up to 20 where more would be kept. */
    private static void fitOfSoManyRoundsAtMost() {
        List<Integer> sums = longFitSums();
        CHECK.yes("more than 20 rounds are kept: " + sums, sums.size() > 22);
        for (int rounds = 1; rounds <= 20; rounds++) {
            Track x = track("fit(" + rounds + ")", 3).after(longFit()).due(rounds, fit(rounds));
            for (int round = 0; round <= rounds; round++) {
                x.due(sums.get(round), sum(round));
            }
            x.none(sum(rounds + 1), sum(21)).due(sums.get(rounds), run());
            x.due(1, fit(1)).due(sums.get(rounds), sum(0)).due(sums.get(rounds + 1), sum(1))
                .none(sum(2), sum(rounds + 2));
        }
    }

    /** 9: "how many were kept", where fewer are kept than there might be. */
    private static void fitEndsBeforeItsRounds() {
        List<Integer> sums = longFitSums();
        int left = sums.size() - 1 - 20;
        Track x = track("a second fit", 3).after(longFit()).due(20, fit(20)).due(left, fit(20));
        x.due(sums.get(20), sum(0)).due(sums.get(20 + left), sum(left)).none(sum(left + 1), sum(20)).due(0, fit(20));
        Track y = track("rounds that just suffice", 3).after(longFit()).due(20, fit(20)).due(left, fit(left));
        y.due(sums.get(20 + left), sum(left)).none(sum(left + 1)).due(0, fit(1));
    }

    /** One act, three rows of three classes: fitted, each costs 1000 * (3 - 1) / 3, 666, and all 1998. */
    private static Track threeRows(int first, int second, int third) {
        Track x = track("rows at " + first + ", " + second + ", " + third, 1);
        return x.after(row(0, 0, 0), row(1, 1, 0), row(2, 2, 0), speed(0, 0, first), speed(0, 1, second), speed(0, 2,
            third));
    }

    /** Terms: "if it costs less than the one before, the round is KEPT". */
    private static void roundIsKeptWhenItCostsLess() {
        threeRows(666, 666, 667).due(1, fit(1)).due(1999, sum(0)).due(1998, sum(1), run());
        threeRows(666, 666, 666).due(0, fit(1)).due(1998, sum(0), run()).none(sum(1));
        threeRows(666, 666, 665).due(0, fit(1)).due(1997, sum(0), run()).none(sum(1));
        threeRows(1998, 0, 0).due(0, fit(20)).due(1998, sum(0));
        threeRows(1999, 0, 0).due(1, fit(20)).due(1998, sum(1));
    }

    /** Terms: "otherwise all is as before the round, and the rounds end". */
    private static void roundThatIsNotKeptChangesNothing() {
        threeRows(1998, 0, 0).due(0, fit(20)).yes(row(3, 0, 0)).due(2 * 1998, run()).yes(row(4, 5, 0))
            .due(2 * 1998, run());
        Track x = track("a line that stays", 2).after(row(0, 0, 0), row(1, 1, 0), row(2, 2, 0));
        x.after(speed(0, 0, 3), move(1, 1, 2));
        x.due(0, fit(9)).due(0, sum(0)).due(1, act(0)).due(0, act(1), act(2)).yes(tied(2)).no(tied(0), tied(1));
        x.none(sum(1)).due(0, run()).due(1, act(0)).yes(tied(2)).no(tied(0), tied(1));
    }

    /** Terms: "all rounded down", of changes: 3 from act 0, once to 1 and twice to 0, 666 and 333. */
    private static void costsAreRoundedDown() {
        Track x = track("rounded changes", 2).after(move(0, 1, 5000), move(0, 0, 5000));
        for (int k = 0; k < 4; k++) {
            x.after(row(k, 0, 0), truth(k, k == 3 ? 1 : 0));
        }
        x.due(1, fit(20)).due(15000, sum(0)).due(333 + 333 + 666, sum(1), run());
        threeRows(5000, 5000, 5000).due(1, fit(20)).due(3 * 666, sum(1), run());
    }

    /** Terms: "where N is 0 the cost stays". */
    private static void costsStayWhereNothingIsCounted() {
        Track x = track("acts without counts", 3).after(row(0, 0, 0), row(1, 0, 0), truth(0, 0), truth(1, 1));
        x.after(speed(0, 0, 9000), speed(2, 0, 31), speed(2, 7, 32), move(2, 2, 33), move(1, 2, 34), move(1, 1, 35));
        x.due(1, fit(20)).due(9000, sum(0)).due(0, sum(1));
        x.after(row(2, 0, 0), truth(2, 2)).due(34 + 31, run()).after(row(3, 7, 0), truth(3, 2))
            .due(34 + 31 + 33 + 32, run());
        x.after(truth(2, 1), truth(3, 1)).due(35 + 35 + 1000, run());
        x.after(truth(1, 2)).due(1000 + 31 + 0 + 35 + 1000, run());
    }

    /** Terms: "KEPT (with its costs and its line)": a class that no row of an act has costs it 1000 then. */
    private static void fittedCostsStay() {
        Track x = track("costs of a kept round", 2).after(row(0, 4, 0), row(1, 4, 0), speed(0, 4, 1), speed(1, 4, 8));
        x.due(1, fit(3)).due(2, sum(0)).due(0, sum(1), act(0), act(1)).after(row(2, 5, 0), truth(2, 0))
            .due(1000, run());
        x.after(truth(2, 1)).due(8 + 8, run()).due(1, act(0), act(1)).yes(move(0, 1, 15)).due(15, run()).due(0, act(1));
    }

    /** 9: "Finds the best line": what is asked behind it is asked of that line, or of the last kept round's. */
    private static void fitIsARun() {
        Track x = track("a fit behind a run", 4).after(row(0, 0, 2), row(10, 0, 0), run()).due(0, act(0)).none(act(2));
        x.yes(row(30, 0, 0), truth(0, 3), truth(1, 3)).due(0, fit(1)).due(3, act(0), act(1)).due(0, act(2));
        x.due(30, total(), hours(3)).due(0, haul(0, 0)).due(30, haul(0, 1)).due(0, gear(0)).no(tied(0)).yes(tied(2));
        x.none(fit(0)).due(3, act(0)).yes(row(31, 0, 0)).none(fit(21), act(3));
    }

    /** 10: "NONE when there is none such", before any fit(). */
    private static void sumWithoutAFit() {
        Track x = track("sums without a fit", 1).none(sum(0), sum(1), fit(1), sum(0)).yes(row(0, 0, 0), speed(0, 0, 3));
        x.due(3, run()).none(sum(0), sum(1), fit(0), sum(0), fit(21), sum(0)).due(1, fit(1)).due(3, sum(0))
            .due(0, sum(1));
    }

    /** 10: "NONE when there is none such", of rounds. */
    private static void sumWithoutSuchARound() {
        Track x = threeRows(5000, 5000, 5000).due(1, fit(20));
        x.due(15000, sum(0)).due(1998, sum(1)).none(sum(-1), sum(2), sum(20), sum(21), sum(22), sum(MIN), sum(MAX));
        threeRows(0, 0, 0).due(0, fit(20)).due(0, sum(0)).none(sum(1), sum(-1));
    }

    /** 10: "of the latest fit()": a run() leaves the sums, a new fit() does not, a refused one does. */
    private static void sumOfTheLatestFit() {
        Track x = threeRows(5000, 5000, 5000).due(1, fit(20)).due(1998, run()).due(15000, sum(0)).due(1998, sum(1));
        x.none(fit(0), fit(21)).due(15000, sum(0)).due(0, fit(1)).due(1998, sum(0)).none(sum(1));
        x.yes(speed(0, 0, 700)).due(2032, run()).due(1998, sum(0)).due(1, fit(1)).due(2032, sum(0)).due(1998, sum(1));
    }
}
