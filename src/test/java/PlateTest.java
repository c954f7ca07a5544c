/** Promises 1 to 6: a new object, state, about, set, quarrel, best. */
public final class PlateTest {
    private static final Due DUE = new Due();
    private static final int LEAST = Integer.MIN_VALUE;
    private static final int MOST = Integer.MAX_VALUE;

    public static void main(String[] args) {
        promise1NewObject();
        promise2State();
        promise3About();
        promise4Set();
        promise5Quarrel();
        promise5Again();
        promise6Best();
        promise6FirstOfSeveral();
        promise6AllSix();
        DUE.end();
    }

    private static void promise1NewObject() {
        PlateRoom x = new PlateRoom();
        for (int what = 0; what <= 5; what++) {
            DUE.is("count(" + what + ")", x.count(what), 0);
        }
        DUE.is("trace()", x.trace(), 0);
        DUE.is("about(0, 0)", x.about(0, 0), PlateRoom.BAD);
        DUE.is("candidates(0)", x.candidates(0), PlateRoom.BAD);
        DUE.is("from(0)", x.from(0), -2);
        DUE.is("best(0)", x.best(0), PlateRoom.STATE);
        for (int book = 0; book < 4; book++) {
            DUE.is("hole(1, book, 9)", x.hole(1, book, 9), 1);
        }
        x.leaf(0, 0, 0, 0);
        DUE.is("hole(0, 0, 9)", x.hole(0, 0, 9), 1);
        DUE.is("CUT", x.set(0, 0), 1);
        DUE.is("RUB", x.set(1, 0), 2);
        DUE.is("AGAIN", x.set(2, 0), 10);
        DUE.is("LOSS", x.set(3, 0), 2);
        DUE.is("ALONE", x.set(4, 0), 4);
        DUE.is("count(0) of another", new PlateRoom().count(0), 0);
    }

    private static void promise2State() {
        PlateRoom x = new PlateRoom();
        int[][] bad = {
            {-1, 1500, 1900}, {4096, 1500, 1900}, {LEAST, 1500, 1900}, {MOST, 1500, 1900},
            {1, 1499, 1900}, {1, 1500, 1901}, {1, 1601, 1600}, {1, 1901, 1901}, {1, 1499, 1499},
            {1, LEAST, MOST}, {1, MOST, LEAST},
        };
        refuseStates(x, bad);
        DUE.is("count(0) after BAD", x.count(0), 0);
        DUE.is("state(0, 1500, 1900)", x.state(0, 1500, 1900), 0);
        DUE.is("state(4095, 1500, 1500)", x.state(4095, 1500, 1500), 1);
        DUE.is("state(1, 1900, 1900)", x.state(1, 1900, 1900), 2);
        DUE.is("state alike", x.state(1, 1900, 1900), 3);
        DUE.is("state", x.state(2, 1600, 1601), 4);
        DUE.is("the sixth", x.state(3, 1600, 1601), 5);
        DUE.is("a seventh", x.state(4, 1600, 1601), PlateRoom.FULL);
        DUE.is("count(0)", x.count(0), 6);
        refuseStates(x, bad);
        DUE.is("count(0) after FULL", x.count(0), 6);
        DUE.is("about(5, 0) after FULL", x.about(5, 0), 3);
    }

    /** BAD goes ahead of FULL. */
    private static void refuseStates(PlateRoom x, int[][] bad) {
        for (int[] b : bad) {
            DUE.is("state of " + b[0] + " " + b[1] + " " + b[2], x.state(b[0], b[1], b[2]), PlateRoom.BAD);
        }
    }

    private static void promise3About() {
        PlateRoom x = new PlateRoom();
        x.state(5, 1600, 1650);
        x.state(4095, 1700, 1701);
        DUE.is("about(0, 0)", x.about(0, 0), 5);
        DUE.is("about(0, 1)", x.about(0, 1), 1600);
        DUE.is("about(0, 2)", x.about(0, 2), 1650);
        DUE.is("about(1, 0)", x.about(1, 0), 4095);
        DUE.is("about(1, 1)", x.about(1, 1), 1700);
        DUE.is("about(1, 2)", x.about(1, 2), 1701);
        for (int state : new int[] {2, -1, 6, LEAST, MOST}) {
            DUE.is("about(" + state + ", 0)", x.about(state, 0), PlateRoom.BAD);
        }
        for (int what : new int[] {3, -1, LEAST, MOST}) {
            DUE.is("about(0, " + what + ")", x.about(0, what), PlateRoom.BAD);
        }
    }

    private static void promise4Set() {
        PlateRoom x = new PlateRoom();
        int[] first = {1, 2, 10, 2, 4};
        int[] most = {9, 9, 50, 9, 20};
        for (int what = 0; what < 5; what++) {
            DUE.is("set too little", x.set(what, -1), PlateRoom.BAD);
            DUE.is("set too much", x.set(what, most[what] + 1), PlateRoom.BAD);
            DUE.is("set least", x.set(what, LEAST), PlateRoom.BAD);
            DUE.is("set most", x.set(what, MOST), PlateRoom.BAD);
            DUE.is("set(" + what + ", most)", x.set(what, most[what]), first[what]);
            DUE.is("set(" + what + ", 0)", x.set(what, 0), most[what]);
            DUE.is("set(" + what + ", 1)", x.set(what, 1), 0);
        }
        for (int what : new int[] {-1, 5, LEAST, MOST}) {
            DUE.is("set(" + what + ", 0)", x.set(what, 0), PlateRoom.BAD);
        }
        for (int what = 0; what < 5; what++) {
            DUE.is("set(" + what + ", 1) once more", x.set(what, 1), 1);
        }
    }

    private static void promise5Quarrel() {
        PlateRoom x = new PlateRoom();
        DUE.is("quarrel(0) without STATES", x.quarrel(0), PlateRoom.BAD);
        x.state(1, 1600, 1650);
        DUE.is("quarrel(0) of one", x.quarrel(0), 0);
        DUE.is("quarrel(6) of one", x.quarrel(6), PlateRoom.BAD);
        DUE.is("quarrel(1) of one", x.quarrel(1), PlateRoom.BAD);
        x.state(7, 1640, 1700);
        DUE.is("quarrel(0, 1): two come", x.quarrel(1), 2);
        DUE.is("quarrel(1, 0): two go", x.quarrel(6), 4);
        x.state(5, 1700, 1720);
        DUE.is("quarrel(0, 1, 2)", x.quarrel(8), 4);
        DUE.is("quarrel(2, 1, 0)", x.quarrel(78), 5);
        DUE.is("quarrel(0, 2, 1)", x.quarrel(13), 2);
        int[] bad = {-1, 0, 6, 42, 3, 8 + 216, 216, LEAST, MOST, 7 + 36, 4 * 36 + 1};
        for (int order : bad) {
            DUE.is("quarrel(" + order + ")", x.quarrel(order), PlateRoom.BAD);
        }
        x.set(0, 9);
        x.set(1, 0);
        DUE.is("quarrel by other charges", x.quarrel(8), 18);
        DUE.is("quarrel by other charges", x.quarrel(78), 9);
    }

    private static void promise5Again() {
        PlateRoom x = new PlateRoom();
        x.state(1, 1500, 1900);
        x.state(2, 1500, 1900);
        x.state(0, 1500, 1900);
        x.state(3, 1500, 1900);
        DUE.is("1, 2, none, 3: both again", x.quarrel(36 + 2 * 6 + 3), 2 + 1 + 2 + 20);
        DUE.is("1, none, 2, 3: one again", x.quarrel(2 * 36 + 6 + 3), 2 + 1 + 10);
        DUE.is("none, 1, 3, 2: none again", x.quarrel(2 * 216 + 3 * 6 + 1), 1 + 1 + 2);
        x.set(2, 0);
        DUE.is("AGAIN in place of CUT", x.quarrel(36 + 2 * 6 + 3), 2 + 1 + 2);
    }

    private static void promise6Best() {
        PlateRoom x = new PlateRoom();
        for (int what : new int[] {-1, 2, LEAST, MOST}) {
            DUE.is("best(" + what + ") without STATES", x.best(what), PlateRoom.BAD);
        }
        DUE.is("best(0) without STATES", x.best(0), PlateRoom.STATE);
        DUE.is("best(1) without STATES", x.best(1), PlateRoom.STATE);
        x.state(15, 1600, 1600);
        DUE.is("best(0) of one", x.best(0), 0);
        DUE.is("best(1) of one", x.best(1), 0);
        x.state(3, 1600, 1600);
        DUE.is("best(0) of two", x.best(0), 6);
        DUE.is("best(1) of two", x.best(1), 2);
        DUE.is("best(2) of two", x.best(2), PlateRoom.BAD);
        x.state(1, 1600, 1600);
        DUE.is("best(0) of three", x.best(0), 2 * 36 + 6);
        DUE.is("best(1) of three", x.best(1), 3);
        x.set(0, 9);
        DUE.is("best(0) by other charges", x.best(0), 8);
        DUE.is("best(1) by other charges", x.best(1), 6);
    }

    private static void promise6FirstOfSeveral() {
        PlateRoom x = new PlateRoom();
        x.set(0, 2);
        x.state(2, 1600, 1600);
        x.state(3, 1600, 1600);
        x.state(1, 1600, 1600);
        DUE.is("best(0): either way alike", x.best(0), 8);
        DUE.is("best(1): either way alike", x.best(1), 4);
        x.set(0, 0);
        x.set(1, 0);
        x.set(2, 0);
        DUE.is("best(0): all cost nothing", x.best(0), 8);
        DUE.is("best(1): all cost nothing", x.best(1), 0);
    }

    private static void promise6AllSix() {
        PlateRoom x = new PlateRoom();
        int[] lines = {31, 1, 15, 3, 0, 7};
        for (int bits : lines) {
            x.state(bits, 1500, 1900);
        }
        int order = ((((4 * 6 + 1) * 6 + 3) * 6 + 5) * 6 + 2) * 6;
        DUE.is("best(0) of six", x.best(0), order);
        DUE.is("best(1) of six", x.best(1), 5);
        DUE.is("quarrel of the best", x.quarrel(order), 5);
        DUE.is("best(0) asked again", x.best(0), order);
    }
}
