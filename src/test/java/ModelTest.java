import java.util.Arrays;
import java.util.List;

/** Long runs of calls, the same ones each time, that the class and the Model must answer alike. */
public final class ModelTest {
    private static final Due DUE = new Due();
    private static final int RUNS = 500;
    private static final int CALLS = 512;
    private static final int CALLS_TO_COMPARE = 380;
    private static final String[] FACE = {
        "state", "about", "set", "quarrel", "best", "leaf", "see", "candidates", "mould", "paper", "imprint",
        "span", "price", "map", "cost", "from", "rivals", "life", "hole", "fits", "shift", "home", "count",
        "trace",
    };
    private static final int[] ODD = {
        Integer.MIN_VALUE, -100, -10, -9, -2, -1, 6, 8, 12, 20, 21, 31, 32, 33, 64, 100, 1499, 1901, 4096,
        46656, Integer.MAX_VALUE,
    };

    private long seed;

    private ModelTest(int run) {
        seed = run * 7919L + 17;
    }

    public static void main(String[] args) {
        for (int run = 0; run < RUNS; run++) {
            new ModelTest(run).go(run);
        }
        DUE.end();
    }

    /** Each second run ends early, so that what can be seen is seen within the calls that are promised. */
    private void go(int run) {
        PlateRoom room = new PlateRoom();
        Model model = new Model();
        // Some runs stay poor in things for long, some are full soon.
        int odd = run % 3 == 0 ? 4 : 25;
        int calls = run % 2 == 0 ? CALLS : CALLS - CALLS_TO_COMPARE;
        for (int i = 0; i < calls; i++) {
            String name = FACE[below(FACE.length)];
            compare("run " + run + ", call " + i + ": ", call(name, arguments(name, odd)), room, model);
        }
        if (calls < CALLS) {
            compareAll(run, room, model);
        }
    }

    /** The arguments that the call takes, the first of these. */
    private static Call call(String name, int... a) {
        return new Call(name, Arrays.copyOf(a, Call.method(PlateRoom.class, name).getParameterCount()));
    }

    private static void compare(String when, Call call, PlateRoom room, Model model) {
        DUE.is(when + call, call.on(room), call.on(model));
    }

    private int below(int bound) {
        seed = seed * 6364136223846793005L + 1442695040888963407L;
        return (int) ((seed >>> 33) % bound);
    }

    private int year() {
        return below(8) == 0 ? 1500 + below(2) * 400 : 1600 + below(12) * 10;
    }

    private int lines() {
        return below(6) == 0 ? below(4096) : below(16) & below(16) | below(2) << 11;
    }

    private int noneOr(int v) {
        return below(4) == 0 ? PlateRoom.NONE : v;
    }

    private int order() {
        int[] digits = {0, 1, 2, 3, 4, 5};
        int howMany = 1 + below(6);
        int number = 0;
        for (int i = 0; i < howMany; i++) {
            int j = i + below(howMany - i);
            int digit = digits[j];
            digits[j] = digits[i];
            number = number * 6 + digit;
        }
        return number;
    }

    /** Mostly as the document tells them; one in odd is not. */
    private int[] arguments(String name, int odd) {
        int[] a = rightArguments(name);
        if (below(odd) == 0) {
            a[below(4)] = ODD[below(ODD.length)];
        }
        return a;
    }

    private int[] rightArguments(String name) {
        int from = year();
        switch (name) {
            case "state": return four(lines(), from, from + below(60), 0);
            case "about": return four(below(6), below(3), 0, 0);
            case "set": return four(below(5), below(10), 0, 0);
            case "quarrel": return four(order(), 0, 0, 0);
            case "best": return four(below(2), 0, 0, 0);
            case "leaf": return four(lines() & 5, lines() & 10, below(1001), below(3));
            case "see": return four(below(20), below(5), below(3), 0);
            case "candidates": return four(below(20), 0, 0, 0);
            case "mould": return four(from, from + below(60), 0, 0);
            case "paper": return four(below(20), noneOr(below(8)), 0, 0);
            case "imprint": return four(below(20), noneOr(from), 0, 0);
            case "span": return four(below(20), below(2), 0, 0);
            case "price": return four(below(3), below(20), 0, 0);
            case "map": return four(from, lines(), 0, 0);
            case "cost": return four(below(8), noneOr(below(8)), 0, 0);
            case "life": return four(below(8), below(5), 0, 0);
            case "hole": return four(below(2), below(3), below(5) == 0 ? below(100) : 20 + below(40), 0);
            case "fits": return four(below(4), below(4), below(41) - 20, 0);
            case "shift": return four(below(4), below(4), below(2), 0);
            case "home": return four(below(4), below(2), 0, 0);
            default: return four(below(8), 0, 0, 0);
        }
    }

    private static int[] four(int a, int b, int c, int d) {
        return new int[] {a, b, c, d};
    }

    /** What a refused call changed unseen would show here. */
    private static void compareAll(int run, PlateRoom room, Model model) {
        for (String name : FACE) {
            boolean adds = List.of("state", "leaf", "mould", "map", "hole").contains(name);
            for (int i = 0; !adds && i < 20; i++) {
                boolean takesNone = name.equals("paper") || name.equals("imprint");
                int second = takesNone ? PlateRoom.NONE : i % 3;
                compare("run " + run + ", at the end: ", call(name, i, second, i % 5), room, model);
            }
        }
    }
}
