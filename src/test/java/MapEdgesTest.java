/** The sentences on MAPS (Terms 2, promises 15 to 19) that name a boundary case. */
public final class MapEdgesTest {
    private static final Due DUE = new Due();
    private static final int BAD = PlateRoom.BAD;
    private static final int NONE = PlateRoom.NONE;

    public static void main(String[] args) {
        eightMaps();
        yearOfAMap();
        errorsOfAMap();
        costs();
        fromAndRivals();
        lives();
        DUE.end();
    }

    private static void costs() {
        costWhichMap();
        costFromWhichMap();
        costFromALesserYear();
        costFromNone();
        costOfOwnErrors();
        costOfLostErrors();
        costOfNothing();
        costOfTheMost();
    }

    private static void fromAndRivals() {
        fromWhichMap();
        fromOfOneAlone();
        fromALesserYear();
        fromThatWhichCostsLeast();
        fromTheLeastNumberOfSeveral();
        fromNoneAheadOfAll();
        fromByWhatStandsNow();
        rivalsWhichMap();
        rivalsOfOneAlone();
        rivalsAreOthers();
        rivalsOfNone();
        rivalsAtMost();
        rivalsOfALesserYear();
    }

    private static void lives() {
        lifeWhichMap();
        lifeWhichError();
        lifeHasItNot();
        lifeOfThatOneAlone();
        lifeByFrom();
        lifeHavingItOnTheWay();
        lifeOfTheMost();
        lifeNotOfThoseFromNone();
        lifeByWhatStandsNow();
    }

    private static Told told(String sentence) {
        return new Told(DUE, sentence);
    }

    private static void eightMaps() {
        Told t = told("MAPS (8 at most):");
        for (int i = 0; i < 8; i++) {
            t.due("map(" + (1600 + i) + ", " + i + ")", i);
        }
        t.refused("map(1500, 4095)", PlateRoom.FULL);
        t.refused("map(1607, 7)", PlateRoom.FULL);
        t.due("count(3)", 8);
        t.due("cost(7, -9)", 7);
        t.refused("from(8)", -2);
    }

    private static void yearOfAMap() {
        Told t = told("MAPS have a YEAR, 1500 .. 1900:");
        t.refusedBeyond("map(X, 0)", 1500, 1900, BAD);
        t.due("map(1900, 1)", 0);
        t.due("map(1500, 1)", 1);
        t.due("cost(0, 1)", 0);
        t.refused("cost(1, 0)", BAD);
    }

    private static void errorsOfAMap() {
        Told t = told("ERRORS (bits 0 .. 11):");
        t.refusedBeyond("map(1600, X)", 0, 4095, BAD);
        t.due("map(1600, 0)", 0);
        t.due("map(1600, 4095)", 1);
        t.due("map(1600, 2048)", 2);
        t.due("cost(0, -9)", 4);
        t.due("cost(1, -9)", 16);
        t.due("cost(2, -9)", 5);
        t.due("life(1, 0)", 1);
        t.due("life(2, 11)", 1);
        t.refused("life(2, 10)", BAD);
    }

    // ---- cost

    private static void costWhichMap() {
        Told t = told("What it costs for a MAP, BAD:");
        t.refusedBeyond("cost(X, -9)", 0, -1, BAD);
        t.given("map(1600, 1)", "map(1700, 2)");
        t.refusedBeyond("cost(X, -9)", 0, 1, BAD);
        t.refusedBeyond("cost(X, 0)", 0, 1, BAD);
        t.refused("cost(-9, -9)", BAD);
        t.due("cost(1, 0)", 3);
    }

    private static void costFromWhichMap() {
        Told t = told("to come from another one (NONE: from none), BAD:");
        t.given("map(1600, 1)", "map(1700, 2)");
        t.refusedBeyond("cost(1, X)", 0, 1, BAD);
        for (int near : new int[] {-10, -8, 9, 8, -2, -3}) {
            t.refused("cost(1, " + near + ")", BAD);
        }
        t.due("cost(1, 0)", 3);
        t.due("cost(1, -9)", 5);
    }

    private static void costFromALesserYear() {
        Told t = told("BAD: not of a lesser YEAR, too:");
        t.given("map(1600, 1)", "map(1600, 1)", "map(1601, 1)", "map(1599, 1)");
        t.refused("cost(0, 0)", BAD);
        t.refused("cost(0, 1)", BAD);
        t.refused("cost(1, 0)", BAD);
        t.refused("cost(0, 2)", BAD);
        t.refused("cost(3, 0)", BAD);
        t.due("cost(2, 0)", 0);
        t.due("cost(2, 1)", 0);
        t.due("cost(0, 3)", 0);
        t.due("cost(2, 3)", 0);
    }

    private static void costFromNone() {
        Told t = told("from none: 1 for each ERROR, and ALONE:");
        t.given("map(1500, 0)", "map(1500, 1)", "map(1500, 4095)");
        t.due("cost(0, -9)", 4);
        t.due("cost(1, -9)", 5);
        t.due("cost(2, -9)", 16);
        t.given("set(3, 9)");
        t.due("cost(2, -9)", 16);
    }

    private static void costOfOwnErrors() {
        Told t = told("it costs 1 for each ERROR that is not in that one:");
        t.given("map(1600, 5)", "map(1700, 4095)", "map(1700, 5)", "map(1700, 7)");
        t.due("cost(1, 0)", 10);
        t.due("cost(2, 0)", 0);
        t.due("cost(3, 0)", 1);
    }

    private static void costOfLostErrors() {
        Told t = told("LOSS for each of that one's that it has not:");
        t.given("map(1600, 7)", "map(1700, 0)", "map(1700, 6)", "map(1700, 4088)");
        t.due("cost(1, 0)", 6);
        t.due("cost(2, 0)", 2);
        t.due("cost(3, 0)", 9 + 6);
    }

    private static void costOfNothing() {
        Told t = told("it costs, without ERRORS:");
        t.given("map(1600, 0)", "map(1700, 0)");
        t.due("cost(1, 0)", 0);
        t.given("set(4, 0)");
        t.due("cost(1, -9)", 0);
    }

    private static void costOfTheMost() {
        Told t = told("the greatest costs:");
        t.given("map(1500, 4095)", "map(1900, 0)", "set(3, 9)", "set(4, 20)");
        t.due("cost(1, 0)", 108);
        t.due("cost(1, -9)", 20);
        t.due("cost(0, -9)", 32);
    }

    // ---- from, rivals

    private static void fromWhichMap() {
        Told t = told("FROM, BAD is told as -2:");
        t.refusedBeyond("from(X)", 0, -1, -2);
        t.given("map(1600, 1)", "map(1700, 1)");
        t.refusedBeyond("from(X)", 0, 1, -2);
        t.refused("from(-9)", -2);
        t.due("from(1)", 0);
        t.due("from(0)", NONE);
    }

    private static void fromOfOneAlone() {
        Told t = told("FROM, NONE, of one alone:");
        t.given("map(1900, 4095)", "set(4, 20)");
        t.due("from(0)", NONE);
    }

    private static void fromALesserYear() {
        Told t = told("COPIED from one with a lesser YEAR:");
        t.given("map(1600, 15)", "map(1600, 15)", "map(1601, 15)", "map(1599, 240)");
        t.due("from(0)", NONE);
        t.due("from(1)", NONE);
        t.due("from(3)", NONE);
        t.due("from(2)", 0);
        t.given("map(1599, 15)");
        t.due("from(0)", 4);
        t.due("from(4)", NONE);
        t.due("from(2)", 0);
    }

    private static void fromThatWhichCostsLeast() {
        Told t = told("FROM of a MAP: that which costs least:");
        t.given("map(1600, 1)", "map(1610, 3)", "map(1620, 7)", "map(1900, 15)", "map(1500, 15)");
        t.due("from(3)", 4);
        t.due("cost(3, 4)", 0);
        t.due("from(2)", 1);
        t.due("from(1)", 0);
        t.due("from(0)", NONE);
    }

    private static void fromTheLeastNumberOfSeveral() {
        Told t = told("of several the least number:");
        t.given("map(1620, 3)", "map(1610, 3)", "map(1600, 3)", "map(1700, 3)");
        t.due("from(3)", 0);
        t.due("from(0)", 1);
        t.due("from(1)", 2);
        t.due("from(2)", NONE);
    }

    private static void fromNoneAheadOfAll() {
        Told t = told("NONE ahead of all:");
        t.given("map(1600, 1)", "map(1700, 2)", "set(4, 3)");
        t.due("from(1)", 0);
        t.given("set(4, 2)");
        t.due("from(1)", NONE);
        t.given("set(4, 1)");
        t.due("from(1)", NONE);
    }

    private static void fromByWhatStandsNow() {
        Told t = told("FROM by LOSS and ALONE that stand, of the MAPS that there are:");
        t.given("map(1600, 7)", "map(1700, 1)");
        t.due("from(1)", 0);
        t.given("set(3, 3)");
        t.due("from(1)", NONE);
        t.given("set(4, 6)");
        t.due("from(1)", 0);
        t.given("map(1650, 1)");
        t.due("from(1)", 2);
    }

    private static void rivalsWhichMap() {
        Told t = told("RIVALS, BAD:");
        t.refusedBeyond("rivals(X)", 0, -1, BAD);
        t.given("map(1600, 1)", "map(1600, 1)");
        t.refusedBeyond("rivals(X)", 0, 1, BAD);
        t.refused("rivals(-9)", BAD);
        t.due("rivals(1)", 0);
    }

    private static void rivalsOfOneAlone() {
        Told t = told("RIVALS of one alone:");
        t.given("map(1600, 0)", "set(4, 0)");
        t.due("rivals(0)", 0);
    }

    private static void rivalsAreOthers() {
        Told t = told("RIVALS: how many others cost as little:");
        t.given("map(1600, 1)", "map(1900, 1)");
        t.due("rivals(1)", 0);
        t.given("map(1610, 1)");
        t.due("rivals(1)", 1);
        t.given("map(1620, 3)", "map(1620, 0)");
        t.due("rivals(1)", 1);
        t.given("map(1500, 1)");
        t.due("rivals(1)", 2);
        t.due("from(1)", 0);
    }

    /** Where NONE costs as little it is ahead of all, and so the others are those that have a number. */
    private static void rivalsOfNone() {
        Told t = told("RIVALS (NONE, too):");
        t.given("map(1600, 1)", "map(1700, 2)", "set(4, 3)");
        t.due("rivals(1)", 0);
        t.given("set(4, 2)");
        t.due("from(1)", NONE);
        t.due("rivals(1)", 1);
        t.given("set(4, 1)");
        t.due("rivals(1)", 0);
        t.due("rivals(0)", 0);
    }

    private static void rivalsAtMost() {
        Told t = told("RIVALS of the eighth:");
        for (int i = 0; i < 7; i++) {
            t.given("map(1899, 0)");
        }
        t.given("map(1900, 0)");
        t.due("from(7)", 0);
        t.due("rivals(7)", 6);
        t.given("set(4, 0)");
        t.due("from(7)", NONE);
        t.due("rivals(7)", 7);
        t.due("rivals(6)", 0);
    }

    private static void rivalsOfALesserYear() {
        Told t = told("RIVALS with a lesser YEAR:");
        t.given("map(1600, 1)", "map(1600, 1)", "map(1601, 1)", "map(1599, 1)");
        t.due("rivals(0)", 0);
        t.due("rivals(2)", 2);
        t.due("rivals(3)", 0);
    }

    // ---- life

    private static void lifeWhichMap() {
        Told t = told("LIFE of an ERROR from a MAP on, BAD:");
        t.refusedBeyond("life(X, 0)", 0, -1, BAD);
        t.given("map(1600, 1)", "map(1700, 1)");
        t.refusedBeyond("life(X, 0)", 0, 1, BAD);
        t.refused("life(-9, 0)", BAD);
        t.due("life(0, 0)", 2);
        t.due("life(1, 0)", 1);
    }

    private static void lifeWhichError() {
        Told t = told("LIFE of an ERROR, 0 .. 11:");
        t.given("map(1600, 4095)");
        t.refusedBeyond("life(0, X)", 0, 11, BAD);
        t.refused("life(0, 32)", BAD);
        t.refused("life(0, 43)", BAD);
        for (int error = 0; error < 12; error++) {
            t.due("life(0, " + error + ")", 1);
        }
    }

    private static void lifeHasItNot() {
        Told t = told("BAD: it has it not, too:");
        t.given("map(1600, 2046)", "map(1500, 4095)", "map(1700, 0)");
        t.refused("life(0, 0)", BAD);
        t.refused("life(0, 11)", BAD);
        for (int error = 0; error < 12; error++) {
            t.refused("life(2, " + error + ")", BAD);
        }
        t.due("life(0, 1)", 1);
        t.due("life(1, 0)", 1);
    }

    private static void lifeOfThatOneAlone() {
        Told t = told("(that one, too), alone:");
        t.given("map(1600, 1)", "map(1600, 1)", "map(1500, 1)");
        t.due("life(0, 0)", 1);
        t.due("life(1, 0)", 1);
        t.due("life(2, 0)", 3);
    }

    private static void lifeByFrom() {
        Told t = told("that come of a given one, by FROM:");
        t.given("map(1600, 1)", "map(1610, 3)", "map(1620, 7)", "map(1630, 15)", "map(1610, 17)");
        t.due("from(3)", 2);
        t.due("from(4)", 0);
        t.due("life(0, 0)", 5);
        t.due("life(1, 0)", 3);
        t.due("life(1, 1)", 3);
        t.due("life(2, 0)", 2);
        t.due("life(3, 0)", 1);
        t.due("life(4, 0)", 1);
    }

    /** The one in the middle has lost ERROR 0, and the last one, that comes of it, has it again. */
    private static void lifeHavingItOnTheWay() {
        Told t = told("each one on the way having it:");
        t.given("map(1600, 31)", "map(1650, 1022)", "map(1700, 1023)");
        t.due("from(1)", 0);
        t.due("from(2)", 1);
        t.due("life(0, 0)", 1);
        t.due("life(2, 0)", 1);
        t.due("life(0, 1)", 3);
        t.due("life(1, 1)", 2);
        t.due("life(1, 9)", 2);
        t.refused("life(1, 0)", BAD);
    }

    private static void lifeOfTheMost() {
        Told t = told("LIFE through all eight:");
        for (int i = 0; i < 8; i++) {
            t.given("map(" + (1893 + i) + ", " + ((2 << i) - 1) + ")");
        }
        for (int i = 0; i < 8; i++) {
            t.due("life(" + i + ", 0)", 8 - i);
            t.due("life(" + i + ", " + i + ")", 8 - i);
        }
    }

    private static void lifeNotOfThoseFromNone() {
        Told t = told("that come of a given one, not from none:");
        t.given("map(1600, 3)", "map(1700, 1)", "set(4, 0)");
        t.due("from(1)", NONE);
        t.due("life(0, 0)", 1);
        t.due("life(1, 0)", 1);
    }

    private static void lifeByWhatStandsNow() {
        Told t = told("LIFE by FROM as it stands:");
        t.given("map(1600, 3)", "map(1700, 1)");
        t.due("life(0, 0)", 2);
        t.given("set(3, 9)");
        t.due("life(0, 0)", 1);
        t.given("set(4, 20)");
        t.due("life(0, 0)", 2);
        t.given("map(1500, 1)");
        t.due("life(0, 0)", 1);
        t.due("life(2, 0)", 3);
    }
}
