/**
 * The sentence "Refused, and nothing changes, the first of these: BAD (a number is not as told, or there
 * is no such thing), STATE (as told), FULL.", call by call, on a poor room, a middling and a full one.
 */
public final class RefusedTest {
    private static final Due DUE = new Due();
    private static final int BAD = PlateRoom.BAD;
    private static final int[] FAR = {Integer.MIN_VALUE, Integer.MAX_VALUE, -1000, 100000};
    private static final String[] MIDDLING = {
        "state(3, 1600, 1650)", "state(7, 1640, 1700)", "leaf(1, 8, 101, 1)", "leaf(4, 0, 900, 2)",
        "mould(1630, 1690)", "paper(0, 0)", "imprint(1, 1660)", "map(1600, 7)", "map(1620, 15)", "set(2, 9)",
        "hole(0, 0, 20)", "hole(0, 0, 40)", "hole(1, 0, 24)", "hole(1, 0, 44)", "price(2, 0)",
    };

    public static void main(String[] args) {
        eachIsFullByItself();
        badAheadOfFullState();
        badAheadOfFullLeaf();
        badAheadOfFullMould();
        badAheadOfFullMap();
        badAheadOfFullHole();
        badAheadOfState();
        refusedAtFirst();
        refusedInTheMiddle();
        refusedWhereAllIsFull();
        DUE.end();
    }

    private static Told told(String sentence) {
        return new Told(DUE, sentence);
    }

    private static void fill(Told t) {
        for (int i = 0; i < 6; i++) {
            t.given("state(" + ((1 << i) - 1) + ", " + (1600 + i) + ", 1700)", "hole(1, 0, " + (i * 11) + ")");
        }
        for (int i = 0; i < 20; i++) {
            t.given("leaf(" + (i % 4) + ", 8, " + (i * 50) + ", " + (i % 3) + ")");
        }
        for (int i = 0; i < 8; i++) {
            t.given("mould(" + (1610 + i) + ", 1690)", "map(" + (1600 + i) + ", " + ((1 << i) - 1) + ")");
        }
        for (int i = 0; i < 6; i++) {
            t.given("hole(0, 0, " + (i * 11 + 5) + ")", "paper(" + i + ", " + i + ")");
        }
    }

    private static void eachIsFullByItself() {
        Told t = told("FULL, where there is no room for one more:");
        fill(t);
        t.refused("state(63, 1600, 1700)", PlateRoom.FULL);
        t.refused("leaf(0, 0, 0, 0)", PlateRoom.FULL);
        t.refused("mould(1600, 1700)", PlateRoom.FULL);
        t.refused("map(1600, 0)", PlateRoom.FULL);
        t.refused("hole(0, 0, 99)", PlateRoom.FULL);
        t.refused("hole(1, 0, 99)", PlateRoom.FULL);
        t.due("hole(0, 1, 99)", 1);
        t.due("hole(1, 1, 99)", 1);
    }

    private static void badAheadOfFullState() {
        Told t = told("BAD ahead of FULL, state:");
        fill(t);
        for (String bad : new String[] {"4096, 1600, 1700", "-1, 1600, 1700", "1, 1499, 1700", "1, 1600, 1901",
            "1, 1601, 1600"}) {
            t.refused("state(" + bad + ")", BAD);
        }
    }

    private static void badAheadOfFullLeaf() {
        Told t = told("BAD ahead of FULL, leaf:");
        fill(t);
        for (String bad : new String[] {"4096, 0, 0, 0", "-1, 0, 0, 0", "0, 4096, 0, 0", "0, -1, 0, 0", "4, 12, 0, 0",
            "0, 0, 1001, 0", "0, 0, -1, 0", "0, 0, 0, 3", "0, 0, 0, -1"}) {
            t.refused("leaf(" + bad + ")", BAD);
        }
    }

    private static void badAheadOfFullMould() {
        Told t = told("BAD ahead of FULL, mould:");
        fill(t);
        for (String bad : new String[] {"1499, 1600", "1600, 1901", "1601, 1600"}) {
            t.refused("mould(" + bad + ")", BAD);
        }
    }

    private static void badAheadOfFullMap() {
        Told t = told("BAD ahead of FULL, map:");
        fill(t);
        for (String bad : new String[] {"1499, 0", "1901, 0", "1600, 4096", "1600, -1"}) {
            t.refused("map(" + bad + ")", BAD);
        }
    }

    private static void badAheadOfFullHole() {
        Told t = told("BAD ahead of FULL, hole:");
        fill(t);
        for (String bad : new String[] {"0, 0, 100", "0, 0, -1", "1, 0, 100", "1, 0, -1", "2, 0, 99", "-1, 0, 99",
            "0, 20, 99", "1, 4, 99"}) {
            t.refused("hole(" + bad + ")", BAD);
        }
    }

    private static void badAheadOfState() {
        Told t = told("BAD ahead of STATE:");
        t.refused("best(-1)", BAD);
        t.refused("best(2)", BAD);
        t.refused("best(0)", PlateRoom.STATE);
        t.refused("best(1)", PlateRoom.STATE);
    }

    private static void refusedAtFirst() {
        Told t = told("Refused, and nothing changes, at first:");
        refuseFar(t);
        t.refused("about(0, 0)", BAD);
        t.refused("quarrel(0)", BAD);
        t.refused("see(0, 0, 0)", BAD);
        t.refused("candidates(0)", BAD);
        t.refused("span(0, 0)", BAD);
        t.refused("price(0, 0)", BAD);
        t.refused("cost(0, -9)", BAD);
        t.refused("rivals(0)", BAD);
        t.refused("life(0, 0)", BAD);
        t.refused("hole(0, 0, 0)", BAD);
        t.refused("fits(0, 0, 0)", BAD);
        t.refused("shift(0, 0, 0)", -100);
        t.refused("home(0, 0)", BAD);
        t.refused("paper(0, -9)", -2);
        t.refused("imprint(0, -9)", -2);
        t.refused("from(0)", -2);
    }

    private static void refusedInTheMiddle() {
        Told t = told("Refused, and nothing changes, in the middle:");
        t.given(MIDDLING);
        refuseFar(t);
        refuseEach(t);
    }

    private static void refusedWhereAllIsFull() {
        Told t = told("Refused, and nothing changes, where all is full:");
        fill(t);
        refuseFar(t);
    }

    /** Each call by a number that is far from all that are told, in each place in turn. */
    private static void refuseFar(Told t) {
        String[] calls = {
            "state(X, 1600, 1700)", "state(1, X, 1700)", "state(1, 1600, X)", "about(X, 0)", "about(0, X)",
            "set(X, 1)", "set(2, X)", "quarrel(X)", "best(X)", "leaf(X, 0, 0, 0)", "leaf(0, X, 0, 0)",
            "leaf(0, 0, X, 0)", "leaf(0, 0, 0, X)", "see(X, 0, 1)", "see(0, X, 1)", "see(0, 0, X)", "candidates(X)",
            "mould(X, 1700)", "mould(1600, X)", "span(X, 0)", "span(0, X)", "price(X, 0)", "price(0, X)",
            "map(X, 0)", "map(1600, X)", "cost(X, -9)", "cost(0, X)", "rivals(X)", "life(X, 0)", "life(0, X)",
            "hole(X, 0, 50)", "hole(0, X, 50)", "hole(1, X, 50)", "hole(1, 0, X)", "fits(X, 0, 0)", "fits(0, X, 0)",
            "fits(0, 0, X)", "home(X, 0)", "home(0, X)", "count(X)",
        };
        String[] asTwo = {"paper(X, 0)", "paper(X, -9)", "paper(0, X)", "imprint(X, 1600)", "imprint(0, X)", "from(X)"};
        String[] asHundred = {"shift(X, 0, 0)", "shift(0, X, 0)", "shift(0, 0, X)"};
        // One far number a call keeps the calls of one room few; which one changes from call to call.
        for (int i = 0; i < calls.length; i++) {
            t.refused(calls[i].replace("X", Integer.toString(FAR[i % FAR.length])), BAD);
        }
        for (int i = 0; i < asTwo.length; i++) {
            t.refused(asTwo[i].replace("X", Integer.toString(FAR[i % FAR.length])), -2);
        }
        for (int i = 0; i < asHundred.length; i++) {
            t.refused(asHundred[i].replace("X", Integer.toString(FAR[i % FAR.length])), -100);
        }
    }

    /** One of two numbers is right and would act, the other is one beyond what is told. */
    private static void refuseEach(Told t) {
        for (String bad : new String[] {"set(0, 10)", "set(5, 3)", "see(0, 12, 1)", "see(2, 0, 2)", "see(0, 0, 3)",
            "price(3, 0)", "price(2, 2)", "hole(0, 2, 9)", "hole(1, 4, 9)", "hole(2, 0, 9)", "hole(0, 0, 100)",
            "cost(0, 1)", "life(0, 3)", "leaf(8, 8, 5, 0)", "state(9, 1700, 1699)", "mould(1700, 1699)"}) {
            t.refused(bad, BAD);
        }
        for (String bad : new String[] {"paper(0, 1)", "paper(2, 0)", "imprint(2, 1600)", "imprint(0, 1499)"}) {
            t.refused(bad, -2);
        }
    }
}
