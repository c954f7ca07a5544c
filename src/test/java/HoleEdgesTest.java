/** The sentences on HOLES, BOOKS, HOME (Terms 3, promises 20 to 25) that name a boundary case. */
public final class HoleEdgesTest {
    private static final Due DUE = new Due();
    private static final int BAD = PlateRoom.BAD;
    private static final int NONE = PlateRoom.NONE;
    private static final int BAD_SHIFT = -100;
    private static final int[] SIX = {0, 20, 40, 60, 80, 99};

    public static void main(String[] args) {
        holes();
        fits();
        shift();
        home();
        counts();
        traceAtFirst();
        traceOfRefusedCalls();
        traceOfPricesAlone();
        DUE.end();
    }

    private static void holes() {
        holeOf();
        holeOfWhichLeaf();
        holeOfWhichBook();
        holePlaces();
        sixHoles();
        holesInAnyOrder();
        twoAlikeCountAsOne();
        twoAlikeOfSix();
    }

    private static void fits() {
        fitsWhichLeaf();
        fitsWhichBook();
        fitsWhichShift();
        fitsWithoutHoles();
        fitsWithinOne();
        fitsByTheFarthestShifts();
        fitsMovedBeyondThePlaces();
        fitsAsManyAsThereAre();
        fitsMoreThanOneByOne();
    }

    private static void shift() {
        shiftWhichLeafAndBook();
        shiftWhat();
        shiftWithoutHoles();
        shiftByWhichMostAre();
        shiftNearestToNothing();
        shiftTheLesserOfTwo();
        shiftOfEachLength();
        shiftFarthest();
    }

    private static void home() {
        homeWhichLeaf();
        homeWhat();
        homeWithoutHoles();
        homeIfNoneFitsWithTwo();
        homeOfMost();
        homeOfSeveralTheLeast();
        homeByItsBestShift();
        homeByAllSix();
        byChanceHasNone();
        byChanceOtherLeaves();
        byChanceAsManyOrMore();
        byChanceThatBook();
        byChanceAtMost();
    }

    private static void counts() {
        countWhat();
        countAtTheMost();
        countWithoutCandidates();
        countWithJustOne();
    }

    private static Told told(String sentence) {
        return new Told(DUE, sentence);
    }

    private static void bore(Told t, int of, int which, int... places) {
        for (int place : places) {
            t.given("hole(" + of + ", " + which + ", " + place + ")");
        }
    }

    // ---- hole

    private static void holeOf() {
        Told t = told("A HOLE of a LEAF (of = 0), of a BOOK (1):");
        t.given("leaf(0, 0, 0, 0)");
        t.refusedBeyond("hole(X, 0, 50)", 0, 1, BAD);
        t.due("hole(0, 0, 50)", 1);
        t.due("hole(1, 0, 50)", 1);
        t.due("hole(1, 0, 60)", 2);
        t.due("hole(0, 0, 50)", 1);
    }

    private static void holeOfWhichLeaf() {
        Told t = told("A HOLE of a LEAF, BAD:");
        t.refusedBeyond("hole(0, X, 50)", 0, -1, BAD);
        t.given("leaf(0, 0, 0, 0)", "leaf(0, 0, 0, 0)");
        t.refusedBeyond("hole(0, X, 50)", 0, 1, BAD);
        t.due("hole(0, 1, 50)", 1);
        t.due("hole(0, 0, 50)", 1);
        for (int i = 2; i < 20; i++) {
            t.given("leaf(0, 0, 0, 0)");
        }
        t.due("hole(0, 19, 50)", 1);
        t.refused("hole(0, 20, 50)", BAD);
    }

    private static void holeOfWhichBook() {
        Told t = told("BOOKS 0 .. 3 have HOLES likewise:");
        t.refusedBeyond("hole(1, X, 50)", 0, 3, BAD);
        for (int book = 0; book < 4; book++) {
            t.due("hole(1, " + book + ", 50)", 1);
        }
        t.given("leaf(0, 0, 0, 0)", "leaf(0, 0, 0, 0)", "leaf(0, 0, 0, 0)", "leaf(0, 0, 0, 0)", "leaf(0, 0, 0, 0)");
        t.refused("hole(1, 4, 50)", BAD);
        t.due("hole(0, 4, 50)", 1);
    }

    private static void holePlaces() {
        Told t = told("HOLES are places 0 .. 99:");
        t.given("leaf(0, 0, 0, 0)");
        for (int of = 0; of < 2; of++) {
            t.refusedBeyond("hole(" + of + ", 0, X)", 0, 99, BAD);
            t.due("hole(" + of + ", 0, 0)", 1);
            t.due("hole(" + of + ", 0, 99)", 2);
        }
        t.due("fits(0, 0, 0)", 2);
    }

    private static void sixHoles() {
        Told t = told("HOLES (6 at most):");
        t.given("leaf(0, 0, 0, 0)", "leaf(0, 0, 0, 0)");
        for (int of = 0; of < 2; of++) {
            for (int i = 0; i < 6; i++) {
                t.due("hole(" + of + ", 0, " + SIX[i] + ")", i + 1);
            }
            t.refused("hole(" + of + ", 0, 1)", PlateRoom.FULL);
            t.refused("hole(" + of + ", 0, 98)", PlateRoom.FULL);
            t.refused("hole(" + of + ", 0, 100)", BAD);
            t.due("hole(" + of + ", 1, 1)", 1);
        }
        t.due("fits(0, 0, 0)", 6);
    }

    private static void holesInAnyOrder() {
        Told t = told("HOLES, told in any order:");
        t.given("leaf(0, 0, 0, 0)", "leaf(0, 0, 0, 0)");
        bore(t, 0, 0, 70, 10, 40);
        bore(t, 0, 1, 10, 40, 70);
        bore(t, 1, 0, 43, 73, 13);
        for (int leaf = 0; leaf < 2; leaf++) {
            t.due("shift(" + leaf + ", 0, 0)", 2);
            t.due("shift(" + leaf + ", 0, 1)", 3);
            t.due("fits(" + leaf + ", 0, 5)", 0);
            t.due("hole(0, " + leaf + ", 10)", 3);
        }
    }

    private static void twoAlikeCountAsOne() {
        Told t = told("two alike count as one (as before, if it was there):");
        t.given("leaf(0, 0, 0, 0)");
        for (int of = 0; of < 2; of++) {
            t.due("hole(" + of + ", 0, 0)", 1);
            t.due("hole(" + of + ", 0, 0)", 1);
            t.due("hole(" + of + ", 0, 1)", 2);
            t.due("hole(" + of + ", 0, 99)", 3);
            t.due("hole(" + of + ", 0, 0)", 3);
            t.due("hole(" + of + ", 0, 99)", 3);
        }
        t.due("fits(0, 0, 0)", 3);
    }

    private static void twoAlikeOfSix() {
        Told t = told("as before, if it was there, of six:");
        t.given("leaf(0, 0, 0, 0)");
        for (int of = 0; of < 2; of++) {
            bore(t, of, 0, SIX);
            for (int place : SIX) {
                t.due("hole(" + of + ", 0, " + place + ")", 6);
            }
            t.refused("hole(" + of + ", 0, 21)", PlateRoom.FULL);
        }
    }

    // ---- fits

    private static void fitsWhichLeaf() {
        Told t = told("How many HOLES of a LEAF fit, BAD:");
        t.refusedBeyond("fits(X, 0, 0)", 0, -1, BAD);
        t.given("leaf(0, 0, 0, 0)", "leaf(0, 0, 0, 0)");
        t.refusedBeyond("fits(X, 0, 0)", 0, 1, BAD);
        t.due("fits(1, 0, 0)", 0);
    }

    private static void fitsWhichBook() {
        Told t = told("How many HOLES fit a BOOK, 0 .. 3:");
        t.given("leaf(0, 0, 0, 0)");
        bore(t, 0, 0, 50);
        bore(t, 1, 0, 50);
        bore(t, 1, 3, 50);
        t.refusedBeyond("fits(0, X, 0)", 0, 3, BAD);
        t.due("fits(0, 0, 0)", 1);
        t.due("fits(0, 1, 0)", 0);
        t.due("fits(0, 3, 0)", 1);
    }

    private static void fitsWhichShift() {
        Told t = told("a shift k (-20 .. 20):");
        t.given("leaf(0, 0, 0, 0)");
        bore(t, 0, 0, 50);
        bore(t, 1, 0, 29, 71);
        t.refusedBeyond("fits(0, 0, X)", -20, 20, BAD);
        t.due("fits(0, 0, -20)", 1);
        t.due("fits(0, 0, 20)", 1);
        t.due("fits(0, 0, -19)", 0);
        t.due("fits(0, 0, 19)", 0);
    }

    private static void fitsWithoutHoles() {
        Told t = told("FITS, without HOLES:");
        t.given("leaf(0, 0, 0, 0)", "leaf(0, 0, 0, 0)");
        t.due("fits(0, 0, 0)", 0);
        bore(t, 0, 0, 0, 1);
        t.due("fits(0, 0, 0)", 0);
        t.due("fits(0, 0, -1)", 0);
        bore(t, 1, 0, 0, 1);
        t.due("fits(1, 0, 0)", 0);
        t.due("fits(0, 0, 0)", 2);
    }

    private static void fitsWithinOne() {
        Told t = told("within 1 of HOLES of the BOOK:");
        t.given("leaf(0, 0, 0, 0)");
        bore(t, 0, 0, 50);
        for (int book = 0; book < 4; book++) {
            bore(t, 1, book, 48 + book);
        }
        t.due("fits(0, 0, 0)", 0);
        t.due("fits(0, 1, 0)", 1);
        t.due("fits(0, 2, 0)", 1);
        t.due("fits(0, 3, 0)", 1);
        for (int k = -20; k <= 20; k++) {
            t.due("fits(0, 2, " + k + ")", k >= -1 && k <= 1 ? 1 : 0);
        }
        bore(t, 1, 0, 52);
        t.due("fits(0, 0, 0)", 0);
    }

    private static void fitsByTheFarthestShifts() {
        Told t = told("moved by k, the farthest:");
        t.given("leaf(0, 0, 0, 0)");
        bore(t, 0, 0, 50);
        bore(t, 1, 0, 72);
        bore(t, 1, 1, 70);
        bore(t, 1, 2, 28);
        bore(t, 1, 3, 30);
        t.due("fits(0, 0, 20)", 0);
        t.due("fits(0, 1, 20)", 1);
        t.due("fits(0, 2, -20)", 0);
        t.due("fits(0, 3, -20)", 1);
        t.due("fits(0, 3, 20)", 0);
    }

    /** The document does not say that a HOLE that is moved must be a place. */
    private static void fitsMovedBeyondThePlaces() {
        Told t = told("moved by k, beyond 0 and 99:");
        t.given("leaf(0, 0, 0, 0)");
        bore(t, 0, 0, 0, 99);
        bore(t, 1, 0, 0, 99);
        t.due("fits(0, 0, 0)", 2);
        t.due("fits(0, 0, 1)", 2);
        t.due("fits(0, 0, -1)", 2);
        t.due("fits(0, 0, 2)", 0);
        t.due("fits(0, 0, -2)", 0);
        t.due("fits(0, 0, 20)", 0);
        t.due("fits(0, 0, -20)", 0);
    }

    private static void fitsAsManyAsThereAre() {
        Told t = told("as many of its HOLES as can be, none to six:");
        t.given("leaf(0, 0, 0, 0)");
        bore(t, 0, 0, 2, 20, 40, 60, 80, 97);
        int[] book = {1, 21, 40, 59, 81, 98};
        for (int i = 0; i < 6; i++) {
            t.due("fits(0, 0, 0)", i);
            bore(t, 1, 0, book[i]);
        }
        t.due("fits(0, 0, 0)", 6);
        t.due("fits(0, 0, 5)", 0);
    }

    /** The document does not say that a HOLE of the BOOK is used up: HOLES of the LEAF are counted. */
    private static void fitsMoreThanOneByOne() {
        Told t = told("how many of its HOLES are, by one of the BOOK:");
        t.given("leaf(0, 0, 0, 0)", "leaf(0, 0, 0, 0)");
        bore(t, 0, 0, 49, 50, 51, 52);
        bore(t, 1, 0, 50);
        bore(t, 0, 1, 50);
        bore(t, 1, 1, 49, 50, 51);
        t.due("fits(0, 0, 0)", 3);
        t.due("fits(1, 1, 0)", 1);
    }

    // ---- shift

    private static void shiftWhichLeafAndBook() {
        Told t = told("BEST SHIFT, -100: BAD, no such LEAF, no such BOOK:");
        t.refusedBeyond("shift(X, 0, 0)", 0, -1, BAD_SHIFT);
        t.given("leaf(0, 0, 0, 0)", "leaf(0, 0, 0, 0)");
        for (int what = 0; what < 2; what++) {
            t.refusedBeyond("shift(X, 0, " + what + ")", 0, 1, BAD_SHIFT);
            t.refusedBeyond("shift(0, X, " + what + ")", 0, 3, BAD_SHIFT);
        }
        t.due("shift(1, 3, 0)", 0);
        t.due("shift(1, 3, 1)", 0);
    }

    private static void shiftWhat() {
        Told t = told("BEST SHIFT (what = 0), how many fit then (1), -100: BAD:");
        t.given("leaf(0, 0, 0, 0)");
        bore(t, 0, 0, 50, 60);
        bore(t, 1, 3, 46, 56);
        t.refusedBeyond("shift(0, 3, X)", 0, 1, BAD_SHIFT);
        t.due("shift(0, 3, 0)", -3);
        t.due("shift(0, 3, 1)", 2);
    }

    private static void shiftWithoutHoles() {
        Told t = told("BEST SHIFT, without HOLES the one nearest to 0:");
        t.given("leaf(0, 0, 0, 0)", "leaf(0, 0, 0, 0)");
        bore(t, 0, 0, 50);
        bore(t, 1, 1, 40);
        for (int book = 0; book < 2; book++) {
            t.due("shift(1, " + book + ", 0)", 0);
            t.due("shift(1, " + book + ", 1)", 0);
        }
        t.due("shift(0, 0, 0)", 0);
        t.due("shift(0, 0, 1)", 0);
    }

    /** One HOLE fits by 0, two by -20, three by 20. */
    private static void shiftByWhichMostAre() {
        Told t = told("BEST SHIFT: that by which most are:");
        t.given("leaf(0, 0, 0, 0)");
        bore(t, 0, 0, 30, 45, 64);
        bore(t, 1, 0, 30);
        t.due("shift(0, 0, 0)", 0);
        bore(t, 1, 0, 9, 24);
        t.due("shift(0, 0, 0)", -20);
        t.due("shift(0, 0, 1)", 2);
        bore(t, 1, 0, 51, 66, 85);
        t.due("shift(0, 0, 0)", 20);
        t.due("shift(0, 0, 1)", 3);
    }

    private static void shiftNearestToNothing() {
        Told t = told("of several the one nearest to 0:");
        t.given("leaf(0, 0, 0, 0)");
        bore(t, 0, 0, 50);
        bore(t, 1, 0, 43, 55);
        t.due("shift(0, 0, 0)", 4);
        bore(t, 1, 1, 45, 57);
        t.due("shift(0, 1, 0)", -4);
        bore(t, 1, 2, 31, 51, 69);
        t.due("shift(0, 2, 0)", 0);
        bore(t, 1, 3, 49);
        t.due("shift(0, 3, 0)", 0);
    }

    private static void shiftTheLesserOfTwo() {
        Told t = told("of two the lesser one:");
        t.given("leaf(0, 0, 0, 0)");
        bore(t, 0, 0, 50);
        int[] far = {2, 3, 12, 21};
        for (int book = 0; book < 4; book++) {
            bore(t, 1, book, 50 - far[book], 50 + far[book]);
            t.due("shift(0, " + book + ", 0)", 1 - far[book]);
            t.due("shift(0, " + book + ", 1)", 1);
        }
    }

    private static void shiftOfEachLength() {
        for (int far = 1; far <= 20; far++) {
            Told t = told("BEST SHIFT of each length, -20 .. 20:");
            t.given("leaf(0, 0, 0, 0)");
            bore(t, 0, 0, 50);
            bore(t, 1, 0, 51 + far);
            bore(t, 1, 1, 49 - far);
            t.due("shift(0, 0, 0)", far);
            t.due("shift(0, 0, 1)", 1);
            t.due("shift(0, 1, 0)", -far);
            t.due("shift(0, 1, 1)", 1);
        }
    }

    private static void shiftFarthest() {
        Told t = told("BEST SHIFT, none beyond 20:");
        t.given("leaf(0, 0, 0, 0)");
        bore(t, 0, 0, 50);
        bore(t, 1, 0, 72);
        bore(t, 1, 1, 28);
        for (int book = 0; book < 2; book++) {
            t.due("shift(0, " + book + ", 0)", 0);
            t.due("shift(0, " + book + ", 1)", 0);
        }
    }

    // ---- home

    private static void homeWhichLeaf() {
        Told t = told("HOME of a LEAF, BAD:");
        t.refusedBeyond("home(X, 0)", 0, -1, BAD);
        t.given("leaf(0, 0, 0, 0)", "leaf(0, 0, 0, 0)");
        t.refusedBeyond("home(X, 0)", 0, 1, BAD);
        t.refusedBeyond("home(X, 1)", 0, 1, BAD);
        t.due("home(1, 0)", NONE);
    }

    private static void homeWhat() {
        Told t = told("HOME (what = 0), BY CHANCE (1), BAD:");
        t.given("leaf(0, 0, 0, 0)", "leaf(0, 0, 0, 0)");
        t.refusedBeyond("home(0, X)", 0, 1, BAD);
        bore(t, 0, 0, 10, 50);
        bore(t, 0, 1, 10, 50);
        bore(t, 1, 3, 10, 50);
        t.refusedBeyond("home(0, X)", 0, 1, BAD);
        t.due("home(0, 0)", 3);
        t.due("home(0, 1)", 1);
    }

    private static void homeWithoutHoles() {
        Told t = told("HOME, without HOLES:");
        t.given("leaf(0, 0, 0, 0)");
        t.due("home(0, 0)", NONE);
        bore(t, 1, 0, SIX);
        t.due("home(0, 0)", NONE);
        t.given("leaf(0, 0, 0, 0)");
        bore(t, 0, 1, SIX);
        t.due("home(0, 0)", NONE);
        t.due("home(1, 0)", 0);
    }

    private static void homeIfNoneFitsWithTwo() {
        Told t = told("NONE, if none fits with 2:");
        t.given("leaf(0, 0, 0, 0)");
        bore(t, 0, 0, 10, 50);
        for (int book = 0; book < 4; book++) {
            bore(t, 1, book, 10);
        }
        t.due("home(0, 0)", NONE);
        bore(t, 1, 3, 50);
        t.due("home(0, 0)", 3);
        t.due("home(0, 1)", 0);
    }

    private static void homeOfMost() {
        Told t = told("HOME: the BOOK that it FITS with most of its HOLES:");
        t.given("leaf(0, 0, 0, 0)");
        bore(t, 0, 0, 10, 30, 55, 90);
        bore(t, 1, 0, 10, 30);
        t.due("home(0, 0)", 0);
        bore(t, 1, 2, 10, 30, 55, 90);
        t.due("home(0, 0)", 2);
        bore(t, 1, 3, 10, 30, 55);
        t.due("home(0, 0)", 2);
        bore(t, 1, 1, 10, 30, 55);
        t.due("home(0, 0)", 2);
    }

    private static void homeOfSeveralTheLeast() {
        Told t = told("HOME, of several the least:");
        t.given("leaf(0, 0, 0, 0)");
        bore(t, 0, 0, 10, 50);
        for (int book = 3; book >= 0; book--) {
            bore(t, 1, book, 10, 50);
            t.due("home(0, 0)", book);
        }
    }

    /** By 0 two fit the BOOK 0 and none the BOOK 1, that all three fit by -20; the BOOK 2 is too far by one. */
    private static void homeByItsBestShift() {
        Told t = told("HOME by its BEST SHIFT:");
        t.given("leaf(0, 0, 0, 0)");
        bore(t, 0, 0, 40, 55, 90);
        bore(t, 1, 0, 40, 55);
        bore(t, 1, 1, 19, 34, 69);
        t.due("fits(0, 1, 0)", 0);
        t.due("home(0, 0)", 1);
        bore(t, 1, 2, 18, 33, 68);
        t.due("shift(0, 2, 1)", 1);
        t.due("home(0, 0)", 1);
    }

    private static void homeByAllSix() {
        Told t = told("HOME by all six HOLES:");
        t.given("leaf(0, 0, 0, 0)");
        bore(t, 0, 0, SIX);
        bore(t, 1, 0, 1, 21, 41, 61, 81);
        bore(t, 1, 1, 1, 21, 41, 61, 81, 98);
        t.due("home(0, 0)", 1);
        t.due("shift(0, 1, 1)", 6);
    }

    private static void byChanceHasNone() {
        Told t = told("BY CHANCE, NONE: it has none:");
        t.given("leaf(0, 0, 0, 0)", "leaf(0, 0, 0, 0)");
        t.due("home(0, 1)", NONE);
        bore(t, 0, 0, 10);
        bore(t, 0, 1, 10, 50);
        bore(t, 1, 0, 10, 50);
        t.due("home(0, 1)", NONE);
        t.due("home(1, 1)", 0);
    }

    private static void byChanceOtherLeaves() {
        Told t = told("BY CHANCE: how many other LEAVES:");
        t.given("leaf(0, 0, 0, 0)");
        bore(t, 0, 0, 10, 50);
        bore(t, 1, 0, 10, 50);
        t.due("home(0, 1)", 0);
        t.given("leaf(0, 0, 0, 0)");
        t.due("home(0, 1)", 0);
        bore(t, 0, 1, 10, 50);
        t.due("home(0, 1)", 1);
        t.due("home(1, 1)", 1);
    }

    /** The others fit with one, two, three, each by a shift of its own. */
    private static void byChanceAsManyOrMore() {
        Told t = told("BY CHANCE: with as many or more:");
        t.given("leaf(0, 0, 0, 0)", "leaf(0, 0, 0, 0)", "leaf(0, 0, 0, 0)", "leaf(0, 0, 0, 0)");
        bore(t, 1, 2, 30, 45, 70);
        bore(t, 0, 0, 30, 45);
        bore(t, 0, 1, 30);
        bore(t, 0, 2, 50, 65);
        bore(t, 0, 3, 10, 25, 50);
        t.due("home(0, 0)", 2);
        t.due("home(0, 1)", 2);
        t.due("home(2, 1)", 2);
        t.due("home(3, 1)", 0);
        bore(t, 0, 0, 70);
        t.due("home(0, 1)", 1);
        t.due("home(3, 1)", 1);
        t.due("home(2, 1)", 2);
    }

    private static void byChanceThatBook() {
        Told t = told("BY CHANCE: fit that BOOK:");
        t.given("leaf(0, 0, 0, 0)", "leaf(0, 0, 0, 0)");
        bore(t, 0, 0, 10, 50);
        bore(t, 1, 0, 10, 50);
        bore(t, 0, 1, 10, 35);
        bore(t, 1, 1, 10, 35);
        t.due("home(0, 0)", 0);
        t.due("home(1, 0)", 1);
        t.due("home(0, 1)", 0);
        t.due("home(1, 1)", 0);
        bore(t, 0, 1, 50);
        t.due("home(1, 0)", 0);
        t.due("home(0, 1)", 1);
        t.due("home(1, 1)", 1);
    }

    private static void byChanceAtMost() {
        Told t = told("BY CHANCE, of twenty LEAVES:");
        for (int i = 0; i < 20; i++) {
            t.given("leaf(0, 0, 0, 0)");
            bore(t, 0, i, 10, 50);
        }
        bore(t, 1, 3, 10, 50);
        t.due("home(0, 1)", 19);
        t.due("home(19, 1)", 19);
        t.due("home(7, 1)", 19);
    }

    // ---- count

    private static void countWhat() {
        Told t = told("0 STATES, 1 LEAVES, 2 MOULDS, 3 MAPS, 4 LEAVES without CANDIDATES, 5 with just one; BAD:");
        t.refusedBeyond("count(X)", 0, 5, BAD);
        for (int what = 0; what < 6; what++) {
            t.due("count(" + what + ")", 0);
        }
        t.given("state(0, 1500, 1900)");
        t.due("count(0)", 1);
        t.given("leaf(0, 0, 0, 0)", "leaf(0, 0, 0, 0)");
        t.due("count(1)", 2);
        t.given("mould(1500, 1900)", "mould(1500, 1900)", "mould(1500, 1900)");
        t.due("count(2)", 3);
        t.given("map(1500, 0)", "map(1500, 0)", "map(1500, 0)", "map(1500, 0)");
        t.due("count(3)", 4);
        t.due("count(4)", 0);
        t.due("count(5)", 2);
        t.refusedBeyond("count(X)", 0, 5, BAD);
    }

    private static void countAtTheMost() {
        Told t = told("STATES, LEAVES, MOULDS, MAPS, as many as fit:");
        String[] adds = {"state(1, 1600, 1700)", "leaf(0, 0, 0, 0)", "mould(1600, 1700)", "map(1600, 1)"};
        int[] most = {6, 20, 8, 8};
        for (int what = 0; what < 4; what++) {
            for (int i = 0; i < most[what]; i++) {
                t.due("count(" + what + ")", i);
                t.given(adds[what]);
            }
            t.due(adds[what], PlateRoom.FULL);
            t.due("count(" + what + ")", most[what]);
        }
    }

    private static void countWithoutCandidates() {
        Told t = told("LEAVES without CANDIDATES:");
        t.given("leaf(0, 0, 0, 0)", "leaf(1, 0, 0, 0)", "leaf(0, 1, 0, 0)");
        t.due("count(4)", 3);
        t.given("state(1, 1500, 1900)");
        t.due("count(4)", 1);
        t.given("state(0, 1500, 1900)");
        t.due("count(4)", 0);
        t.given("see(0, 11, 1)");
        t.due("count(4)", 1);
        t.given("see(0, 11, 0)");
        t.due("count(4)", 0);
    }

    private static void countWithJustOne() {
        Told t = told("LEAVES with just one:");
        t.given("leaf(0, 0, 0, 0)", "leaf(1, 0, 0, 0)", "leaf(0, 1, 0, 0)");
        t.due("count(5)", 0);
        t.given("state(1, 1500, 1900)");
        t.due("count(5)", 2);
        t.given("state(0, 1500, 1900)");
        t.due("count(5)", 2);
        t.given("state(1, 1500, 1900)");
        t.due("count(5)", 1);
        t.given("see(1, 0, 2)");
        t.due("count(5)", 2);
    }

    // ---- trace

    private static void traceAtFirst() {
        Told t = told("THE TRACE at first:");
        t.due("trace()", 0);
        t.due("trace()", 0);
    }

    private static void traceOfRefusedCalls() {
        Told t = told("THE TRACE, nothing changes:");
        t.given("leaf(0, 0, 0, 0)");
        t.refusedBeyond("price(X, 0)", 0, 2, BAD);
        t.refusedBeyond("price(2, X)", 0, 0, BAD);
        t.due("trace()", 0);
        t.given("price(2, 0)");
        t.due("trace()", 111);
    }

    private static void traceOfPricesAlone() {
        Told t = told("THE TRACE, as often as price() asks:");
        t.given("state(1, 1500, 1900)", "leaf(1, 0, 10, 1)", "mould(1500, 1900)", "map(1600, 1)", "hole(0, 0, 1)");
        String[] others = {
            "about(0, 0)", "set(0, 1)", "quarrel(0)", "best(0)", "best(1)", "see(0, 0, 1)", "candidates(0)",
            "paper(0, 0)", "imprint(0, 1600)", "span(0, 0)", "cost(0, -9)", "from(0)", "rivals(0)", "life(0, 0)",
            "fits(0, 0, 0)", "shift(0, 0, 0)", "home(0, 0)", "home(0, 1)", "count(4)", "count(5)", "trace()",
        };
        t.given(others);
        t.due("trace()", 0);
        for (int i = 1; i <= 300; i++) {
            t.given("price(2, 0)");
        }
        t.due("trace()", 33300);
    }
}
