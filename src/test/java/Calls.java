import java.util.StringJoiner;
import java.util.function.Predicate;
import java.util.function.ToLongFunction;

/** The calls of the face, written down before they are made. A test that uses them extends this class. */
abstract class Calls {
    static final int MIN = Integer.MIN_VALUE;
    static final int MAX = Integer.MAX_VALUE;

    private static String text(String name, long... arguments) {
        StringJoiner text = new StringJoiner(", ", name + "(", ")");
        for (long argument : arguments) {
            text.add(Long.toString(argument));
        }
        return text.toString();
    }

    private static Call told(Predicate<ActChains> how, String name, long... arguments) {
        return new Call(text(name, arguments), 0, x -> how.test(x) ? 1 : 0);
    }

    private static Call asked(ToLongFunction<ActChains> how, String name, long... arguments) {
        return new Call(text(name, arguments), ActChains.NONE, how);
    }

    static Call move(int from, int to, int cost) {
        return told(x -> x.move(from, to, cost), "move", from, to, cost);
    }

    static Call speed(int act, int cls, int cost) {
        return told(x -> x.speed(act, cls, cost), "speed", act, cls, cost);
    }

    static Call row(long second, int cls, int turn) {
        return told(x -> x.row(second, cls, turn), "row", second, cls, turn);
    }

    static Call run() {
        return asked(ActChains::run, "run");
    }

    static Call act(int k) {
        return asked(x -> x.act(k), "act", k);
    }

    static Call greatest() {
        return told(ActChains::greatest, "greatest");
    }

    static Call truth(int k, int act) {
        return told(x -> x.truth(k, act), "truth", k, act);
    }

    static Call fit(int rounds) {
        return asked(x -> x.fit(rounds), "fit", rounds);
    }

    static Call sum(int round) {
        return asked(x -> x.sum(round), "sum", round);
    }

    static Call leftOut(int ship) {
        return asked(x -> x.leftOut(ship), "leftOut", ship);
    }

    static Call hours(int act) {
        return asked(x -> x.hours(act), "hours", act);
    }

    static Call haul(int k, int end) {
        return asked(x -> x.haul(k, end), "haul", k, end);
    }

    static Call differs(int k, int what) {
        return asked(x -> x.differs(k, what), "differs", k, what);
    }

    static Call page(long from, long to, int act) {
        return told(x -> x.page(from, to, act), "page", from, to, act);
    }

    static Call unsure(int k) {
        return told(x -> x.unsure(k), "unsure", k);
    }

    static Call margin(int v) {
        return told(x -> x.margin(v), "margin", v);
    }

    static Call map(int x, int y) {
        return asked(chains -> chains.map(x, y), "map", x, y);
    }

    static Call cell(int k, int x, int y, long seconds) {
        return told(chains -> chains.cell(k, x, y, seconds), "cell", k, x, y, seconds);
    }

    static Call gear(int k) {
        return asked(x -> x.gear(k), "gear", k);
    }

    static Call ship(int s) {
        return told(x -> x.ship(s), "ship", s);
    }

    static Call total() {
        return asked(ActChains::total, "total");
    }

    static Call tied(int k) {
        return told(x -> x.tied(k), "tied", k);
    }

    static Call night(int k) {
        return asked(x -> x.night(k), "night", k);
    }
}
