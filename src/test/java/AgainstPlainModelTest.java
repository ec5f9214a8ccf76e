import java.lang.reflect.Method;
import java.util.Arrays;
import java.util.HashMap;
import java.util.Map;
import java.util.Random;

/** Runs of calls, the same ones each time, asked of the class and of a plain model of the document. */
public final class AgainstPlainModelTest {
    private static final Check CHECK = new Check("AgainstPlainModelTest");
    private static final int CALLS = 512;
    /** Telling calls stand in it more often, so that there is something to ask about. */
    private static final String[] NAMES = {
        "move", "move", "move", "speed", "speed", "speed", "row", "row", "run", "run", "act", "greatest", "truth",
        "fit", "sum", "leftOut", "hours", "haul", "haul", "differs", "differs", "page", "unsure", "unsure", "margin",
        "map", "map", "cell", "cell", "gear", "ship", "total", "tied", "tied", "night",
    };

    private final Random random;
    private final int acts;
    private final int mostRows;
    private final int mostCost;
    private int rows;
    private long second;

    private AgainstPlainModelTest(int seed) {
        random = new Random(seed);
        acts = 1 + random.nextInt(seed % 5 == 0 ? 12 : 5);
        int most = 1;
        for (long lines = acts; most < 9 && lines * acts <= 1500; lines *= acts) {
            most++;
        }
        mostRows = most;
        mostCost = new int[] {0, 2, 5, 2000, 10000}[random.nextInt(5)];
    }

    public static void main(String[] args) throws ReflectiveOperationException {
        Map<String, Method> real = methods(ActChains.class);
        Map<String, Method> plain = methods(PlainModel.class);
        for (int seed = 0; seed < 400; seed++) {
            new AgainstPlainModelTest(seed).compare(seed, real, plain);
        }
        CHECK.end();
    }

    private static Map<String, Method> methods(Class<?> of) {
        Map<String, Method> methods = new HashMap<>();
        for (Method method : of.getDeclaredMethods()) {
            if (Arrays.asList(NAMES).contains(method.getName())) {
                method.setAccessible(true);
                methods.put(method.getName(), method);
            }
        }
        return methods;
    }

    private void compare(int seed, Map<String, Method> real, Map<String, Method> plain)
            throws ReflectiveOperationException {
        ActChains x = new ActChains(acts);
        PlainModel model = new PlainModel(acts);
        for (int i = 0; i < CALLS; i++) {
            String name = NAMES[random.nextInt(NAMES.length)];
            if (name.equals("row") && rows >= mostRows) {
                continue;
            }
            Object[] arguments = arguments(name);
            long due = number(plain.get(name).invoke(model, arguments));
            long got = number(real.get(name).invoke(x, arguments));
            if (name.equals("row") && due == 1) {
                rows++;
                second = (Long) arguments[0];
            }
            CHECK.due("seed " + seed + " call " + i + " " + name + Arrays.toString(arguments), got, due);
        }
    }

    private static long number(Object answer) {
        return answer instanceof Boolean is ? (is ? 1 : 0) : ((Number) answer).longValue();
    }

    /** Mostly 0 .. end - 1, at times just outside or far away. */
    private int about(int end) {
        int dice = random.nextInt(60);
        return dice == 0 ? -1 : dice == 1 ? end : dice == 2 ? random.nextInt() : random.nextInt(Math.max(1, end));
    }

    private int cost() {
        int dice = random.nextInt(60);
        return dice == 0 ? -1 : dice == 1 ? 10001 : random.nextInt(mostCost + 1);
    }

    private long later() {
        int dice = random.nextInt(40);
        return dice == 0 ? second : dice == 1 ? -1 : second + 1 + random.nextInt(dice == 2 ? Integer.MAX_VALUE : 40000);
    }

    private long someSecond() {
        return (long) (random.nextDouble() * 1.2 * (second + 10)) - (random.nextInt(40) == 0 ? 20 : 0);
    }

    private Object[] arguments(String name) {
        switch (name) {
            case "move": return new Object[] {about(acts), about(acts), cost()};
            case "speed": return new Object[] {about(acts), about(10), cost()};
            case "row": return new Object[] {later(), about(random.nextBoolean() ? 3 : 10), about(4)};
            case "truth": return new Object[] {about(rows), about(acts)};
            case "act": case "unsure": case "tied": case "night": return new Object[] {about(rows)};
            case "fit": return new Object[] {about(21)};
            case "sum": return new Object[] {about(3)};
            case "leftOut": case "ship": return new Object[] {about(random.nextInt(4) == 0 ? 10 : 2)};
            case "hours": return new Object[] {about(acts)};
            case "haul": return new Object[] {about(2), about(2)};
            case "gear": return new Object[] {about(2)};
            case "differs": return new Object[] {about(3), about(2)};
            case "page": return new Object[] {someSecond(), someSecond() + 1, about(acts)};
            case "margin": return new Object[] {random.nextInt(30) == 0 ? 100001 : about(mostCost + 1)};
            case "map": return new Object[] {about(2), about(2)};
            case "cell": return new Object[] {about(rows), about(2), about(2), (long) about(1000000)};
            default: return new Object[0];
        }
    }
}
