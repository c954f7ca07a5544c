/** Promises 20 to 25: hole, fits, shift, home, count, trace. */
public final class HoleTest {
    private static final Due DUE = new Due();
    private static final int LEAST = Integer.MIN_VALUE;
    private static final int MOST = Integer.MAX_VALUE;

    public static void main(String[] args) {
        promise20Hole();
        promise21Fits();
        promise21TwoByOne();
        promise22Shift();
        promise22FarthestShifts();
        promise23Home();
        promise23ByChance();
        promise24Count();
        promise25Trace();
        DUE.end();
    }

    private static PlateRoom withLeaves(int howMany) {
        PlateRoom x = new PlateRoom();
        for (int i = 0; i < howMany; i++) {
            x.leaf(0, 0, 0, 0);
        }
        return x;
    }

    private static void bore(PlateRoom x, int of, int which, int... places) {
        for (int place : places) {
            x.hole(of, which, place);
        }
    }

    private static void promise20Hole() {
        PlateRoom x = withLeaves(2);
        for (int of = 0; of < 2; of++) {
            DUE.is("hole at 99", x.hole(of, 1, 99), 1);
            DUE.is("hole at 0", x.hole(of, 1, 0), 2);
            DUE.is("hole at 99 once more", x.hole(of, 1, 99), 2);
            bore(x, of, 1, 1, 2, 3);
            DUE.is("hole, the sixth", x.hole(of, 1, 4), 6);
            DUE.is("hole, a seventh", x.hole(of, 1, 5), PlateRoom.FULL);
            DUE.is("hole, a seventh once more", x.hole(of, 1, 5), PlateRoom.FULL);
            DUE.is("hole, that was there, of six", x.hole(of, 1, 4), 6);
            DUE.is("hole of another", x.hole(of, 0, 4), 1);
        }
        int[][] bad = {
            {0, 0, -1}, {0, 0, 100}, {1, 0, 100}, {0, 2, 0}, {0, -1, 0}, {1, 4, 0}, {1, -1, 0}, {2, 0, 0},
            {-1, 0, 0}, {0, 1, 100}, {LEAST, 0, 0}, {0, MOST, 0}, {1, MOST, 0}, {1, 0, LEAST},
        };
        for (int[] b : bad) {
            DUE.is("hole of " + b[0] + " " + b[1] + " " + b[2], x.hole(b[0], b[1], b[2]), PlateRoom.BAD);
        }
        DUE.is("hole after BAD", x.hole(0, 0, 5), 2);
        DUE.is("hole after BAD", x.hole(1, 0, 5), 2);
    }

    private static void promise21Fits() {
        PlateRoom x = withLeaves(1);
        bore(x, 0, 0, 30, 10, 50);
        DUE.is("fits without HOLES", x.fits(0, 3, 0), 0);
        bore(x, 1, 3, 12, 31, 70);
        DUE.is("fits by 0", x.fits(0, 3, 0), 1);
        DUE.is("fits by 1", x.fits(0, 3, 1), 2);
        DUE.is("fits by 2", x.fits(0, 3, 2), 2);
        DUE.is("fits by 3", x.fits(0, 3, 3), 1);
        DUE.is("fits by 4", x.fits(0, 3, 4), 0);
        DUE.is("fits by 20", x.fits(0, 3, 20), 2);
        DUE.is("fits by -18", x.fits(0, 3, -18), 2);
        DUE.is("fits by -20", x.fits(0, 3, -20), 1);
        int[][] bad = {
            {0, 3, 21}, {0, 3, -21}, {0, 4, 0}, {0, -1, 0}, {1, 3, 0}, {-1, 3, 0}, {0, 3, LEAST}, {MOST, 0, 0},
        };
        for (int[] b : bad) {
            DUE.is("fits of " + b[0] + " " + b[1] + " " + b[2], x.fits(b[0], b[1], b[2]), PlateRoom.BAD);
        }
    }

    /** The document does not say that a HOLE of the BOOK is used up; HOLES of the LEAF are counted. */
    private static void promise21TwoByOne() {
        PlateRoom x = withLeaves(1);
        bore(x, 0, 0, 9, 10, 11);
        bore(x, 1, 0, 10);
        DUE.is("three by one", x.fits(0, 0, 0), 3);
        bore(x, 1, 1, 99);
        bore(x, 0, 0, 99);
        DUE.is("moved beyond the places", x.fits(0, 1, 1), 1);
        DUE.is("moved too far beyond", x.fits(0, 1, 2), 0);
    }

    private static void promise22Shift() {
        PlateRoom x = withLeaves(1);
        DUE.is("shift without HOLES", x.shift(0, 0, 0), 0);
        DUE.is("shift without HOLES", x.shift(0, 0, 1), 0);
        bore(x, 0, 0, 50);
        bore(x, 1, 0, 45, 55);
        DUE.is("shift: the lesser one of two", x.shift(0, 0, 0), -4);
        DUE.is("shift: how many then", x.shift(0, 0, 1), 1);
        bore(x, 1, 1, 45, 54);
        DUE.is("shift: the nearest to 0", x.shift(0, 1, 0), 3);
        bore(x, 0, 0, 60);
        DUE.is("shift: most go ahead of near", x.shift(0, 0, 1), 2);
        DUE.is("shift: most go ahead of near", x.shift(0, 0, 0), -4);
        bore(x, 1, 2, 51, 57, 67);
        DUE.is("shift by 6", x.shift(0, 2, 0), 6);
        DUE.is("how many by 6", x.shift(0, 2, 1), 2);
        bore(x, 1, 3, 51, 61);
        DUE.is("shift by 0", x.shift(0, 3, 0), 0);
        int[][] bad = {{0, 0, 2}, {0, 0, -1}, {0, 4, 0}, {0, -1, 0}, {1, 0, 0}, {-1, 0, 1}, {MOST, 0, 0}, {0, LEAST, 0}};
        for (int[] b : bad) {
            DUE.is("shift of " + b[0] + " " + b[1] + " " + b[2], x.shift(b[0], b[1], b[2]), -100);
        }
    }

    private static void promise22FarthestShifts() {
        PlateRoom x = withLeaves(1);
        bore(x, 0, 0, 50);
        bore(x, 1, 0, 71);
        bore(x, 1, 1, 29);
        bore(x, 1, 2, 72);
        bore(x, 1, 3, 28);
        DUE.is("shift by 20", x.shift(0, 0, 0), 20);
        DUE.is("shift by -20", x.shift(0, 1, 0), -20);
        DUE.is("too far", x.shift(0, 2, 0), 0);
        DUE.is("too far", x.shift(0, 2, 1), 0);
        DUE.is("too far", x.shift(0, 3, 1), 0);
    }

    private static void promise23Home() {
        PlateRoom x = withLeaves(1);
        DUE.is("home(0, 0) without HOLES", x.home(0, 0), PlateRoom.NONE);
        DUE.is("home(0, 1) without HOLES", x.home(0, 1), PlateRoom.NONE);
        bore(x, 0, 0, 10, 30, 70);
        bore(x, 1, 3, 10);
        DUE.is("home(0, 0) by one", x.home(0, 0), PlateRoom.NONE);
        DUE.is("home(0, 1) by one", x.home(0, 1), PlateRoom.NONE);
        bore(x, 1, 3, 30);
        DUE.is("home(0, 0) by two", x.home(0, 0), 3);
        bore(x, 1, 1, 25, 45);
        DUE.is("home(0, 0), the least of two", x.home(0, 0), 1);
        bore(x, 1, 2, 8, 28, 68);
        DUE.is("home(0, 0) by three", x.home(0, 0), 2);
        DUE.is("home(0, 1)", x.home(0, 1), 0);
        int[][] bad = {{0, 2}, {0, -1}, {1, 0}, {-1, 0}, {LEAST, 0}, {0, MOST}};
        for (int[] b : bad) {
            DUE.is("home of " + b[0] + " " + b[1], x.home(b[0], b[1]), PlateRoom.BAD);
        }
    }

    private static void promise23ByChance() {
        PlateRoom x = withLeaves(5);
        bore(x, 1, 0, 10, 30, 70);
        bore(x, 0, 0, 10, 30);
        bore(x, 0, 1, 15, 35);
        bore(x, 0, 2, 5, 25, 65);
        bore(x, 0, 3, 10);
        DUE.is("home(0, 1): as many and more", x.home(0, 1), 2);
        DUE.is("home(1, 1)", x.home(1, 1), 2);
        DUE.is("home(2, 1): the others have less", x.home(2, 1), 0);
        DUE.is("home(3, 1): one alone", x.home(3, 1), PlateRoom.NONE);
        bore(x, 1, 1, 5, 25, 65);
        bore(x, 0, 0, 65);
        DUE.is("home(0, 0), the first fits by two", x.home(0, 0), 0);
        bore(x, 1, 2, 5, 25, 60);
        DUE.is("home(0, 0), the third by three", x.home(0, 0), 2);
        DUE.is("home(0, 1), none by three", x.home(0, 1), 0);
    }

    private static void promise24Count() {
        PlateRoom x = withLeaves(3);
        DUE.is("count(4) without STATES", x.count(4), 3);
        DUE.is("count(5) without STATES", x.count(5), 0);
        x.state(1, 1500, 1900);
        x.state(3, 1500, 1900);
        x.mould(1500, 1900);
        for (int i = 0; i < 4; i++) {
            x.map(1600, 0);
        }
        x.see(0, 1, 1);
        x.see(1, 2, 1);
        DUE.is("count(0)", x.count(0), 2);
        DUE.is("count(1)", x.count(1), 3);
        DUE.is("count(2)", x.count(2), 1);
        DUE.is("count(3)", x.count(3), 4);
        DUE.is("count(4)", x.count(4), 1);
        DUE.is("count(5)", x.count(5), 1);
        x.see(2, 1, 2);
        DUE.is("count(5), one more", x.count(5), 2);
        for (int what : new int[] {-1, 6, LEAST, MOST}) {
            DUE.is("count(" + what + ")", x.count(what), PlateRoom.BAD);
        }
    }

    private static void promise25Trace() {
        PlateRoom x = withLeaves(1);
        x.price(0, 0);
        DUE.is("trace() of PLAIN", x.trace(), 1);
        x.price(1, 0);
        DUE.is("trace() of COLOURED", x.trace(), 12);
        x.price(2, 0);
        DUE.is("trace() of WORM", x.trace(), 123);
        x.price(2, 1);
        x.price(3, 0);
        x.price(-1, 0);
        DUE.is("trace() after BAD", x.trace(), 123);
        x.state(0, 1500, 1900);
        x.candidates(0);
        x.span(0, 0);
        x.home(0, 1);
        x.best(1);
        x.count(5);
        DUE.is("trace() after other calls", x.trace(), 123);
        for (int i = 0; i < 400; i++) {
            x.price(2, 0);
        }
        DUE.is("trace() of many", x.trace(), 123 + 400 * 111);
    }
}
