/** The sentences on LEAVES, PAPER, SPAN, PRICES (Terms 1, promises 7 to 14) that name a boundary case. */
public final class LeafEdgesTest {
    private static final Due DUE = new Due();
    private static final int BAD = PlateRoom.BAD;
    private static final int NONE = PlateRoom.NONE;
    private static final int LEAST = Integer.MIN_VALUE;
    private static final int MOST = Integer.MAX_VALUE;

    public static void main(String[] args) {
        leavesAndLines();
        candidates();
        paper();
        span();
        price();
        DUE.end();
    }

    private static void leavesAndLines() {
        twentyLeaves();
        linesThere();
        linesGone();
        noneIsBoth();
        worth();
        colour();
        newLeafHasNoMouldNoImprint();
        seeWhichLeaf();
        seeLines();
        seeHow();
        othersAreNotSeen();
        seeMakesNoneBoth();
    }

    private static void candidates() {
        candidatesWhichLeaf();
        allThatItHasThere();
        noneThatIsGone();
        candidatesAtTheEdges();
        candidatesOfLaterStates();
        worn();
    }

    private static void paper() {
        eightMoulds();
        yearsOfMoulds();
        mouldFromAndTo();
        paperWhichLeaf();
        paperWhichMould();
        paperNone();
        imprintWhichLeaf();
        imprintYears();
        imprintNone();
    }

    private static void span() {
        spanWhichLeaf();
        spanWhat();
        spanWithoutCandidates();
        spanWithoutMouldOrImprint();
        spanInTheMoulds();
        spanNotAheadOfTheImprint();
        spanOfOneYear();
        spanAtTheFirstAndLastYear();
        spanFromLeastToGreatest();
        spanByCandidatesAlone();
        spanWhereSomeHaveNone();
        spanOfTheSixth();
    }

    private static void price() {
        priceKinds();
        priceWhichLeaf();
        plainRoundedDown();
        plainWithoutCandidates();
        plainOfLeastAndMostWorth();
        colouredNotAtAll();
        colouredOldRoundedDown();
        colouredLaterRoundedUp();
        wormForEachHole();
        wormAtLeastNothing();
        priceComesToTheTrace();
    }

    private static Told told(String sentence) {
        return new Told(DUE, sentence);
    }

    // ---- leaves and lines

    private static void twentyLeaves() {
        Told t = told("A LEAF (20 at most):");
        for (int i = 0; i < 20; i++) {
            t.due("leaf(0, 1, " + i + ", 0)", i);
        }
        t.refused("leaf(0, 0, 1000, 1)", PlateRoom.FULL);
        t.refused("leaf(0, 1, 19, 0)", PlateRoom.FULL);
        t.due("count(1)", 20);
        t.given("state(0, 1500, 1900)");
        t.due("price(0, 19)", 19);
        t.due("price(0, 0)", 0);
        t.refused("candidates(20)", BAD);
    }

    private static void linesThere() {
        Told t = told("LINES SEEN there, 0 .. 11:");
        t.refusedBeyond("leaf(X, 0, 0, 0)", 0, 4095, BAD);
        t.due("leaf(4095, 0, 0, 0)", 0);
        t.due("leaf(0, 0, 0, 0)", 1);
        for (int line = 0; line < 12; line++) {
            t.due("see(0, " + line + ", 1)", 1);
            t.due("see(1, " + line + ", 1)", 0);
        }
    }

    private static void linesGone() {
        Told t = told("LINES SEEN gone, 0 .. 11:");
        t.refusedBeyond("leaf(0, X, 0, 0)", 0, 4095, BAD);
        t.due("leaf(0, 4095, 0, 0)", 0);
        t.due("leaf(0, 0, 0, 0)", 1);
        for (int line = 0; line < 12; line++) {
            t.due("see(0, " + line + ", 2)", 2);
            t.due("see(1, " + line + ", 2)", 0);
        }
    }

    private static void noneIsBoth() {
        Told t = told("none is both:");
        t.refused("leaf(1, 1, 0, 0)", BAD);
        t.refused("leaf(2048, 2048, 0, 0)", BAD);
        t.refused("leaf(4095, 4095, 0, 0)", BAD);
        t.refused("leaf(2047, 3072, 0, 0)", BAD);
        t.due("leaf(2047, 2048, 0, 0)", 0);
        t.due("leaf(1, 4094, 0, 0)", 1);
        t.due("leaf(0, 0, 0, 0)", 2);
    }

    private static void worth() {
        Told t = told("WORTH (0 .. 1000):");
        t.given("state(0, 1500, 1900)");
        t.refusedBeyond("leaf(0, 0, X, 0)", 0, 1000, BAD);
        t.due("leaf(0, 0, 0, 0)", 0);
        t.due("leaf(0, 0, 1000, 0)", 1);
        t.due("price(0, 0)", 0);
        t.due("price(0, 1)", 1000);
    }

    private static void colour() {
        Told t = told("COLOUR (0 .. 2: none, old, later):");
        t.given("state(0, 1500, 1900)");
        t.refusedBeyond("leaf(0, 0, 100, X)", 0, 2, BAD);
        t.due("leaf(0, 0, 100, 0)", 0);
        t.due("leaf(0, 0, 100, 1)", 1);
        t.due("leaf(0, 0, 100, 2)", 2);
        t.due("price(1, 0)", 100);
        t.due("price(1, 1)", 150);
        t.due("price(1, 2)", 75);
    }

    private static void newLeafHasNoMouldNoImprint() {
        Told t = told("A LEAF: no MOULD, no IMPRINT:");
        t.given("mould(1600, 1650)");
        for (int i = 0; i < 20; i++) {
            t.given("leaf(0, 0, 0, 0)");
            t.due("paper(" + i + ", -9)", NONE);
            t.due("imprint(" + i + ", -9)", NONE);
        }
    }

    private static void seeWhichLeaf() {
        Told t = told("A LINE of a LEAF, BAD:");
        t.refusedBeyond("see(X, 0, 1)", 0, -1, BAD);
        t.given("leaf(1, 0, 0, 0)", "leaf(0, 2, 0, 0)");
        t.refusedBeyond("see(X, 0, 1)", 0, 1, BAD);
        t.due("see(1, 1, 0)", 2);
        t.due("see(0, 0, 0)", 1);
    }

    private static void seeLines() {
        Told t = told("LINES 0 .. 11 of a LEAF:");
        t.given("leaf(2049, 0, 0, 0)");
        for (int how = 0; how < 3; how++) {
            t.refusedBeyond("see(0, X, " + how + ")", 0, 11, BAD);
            t.refused("see(0, 32, " + how + ")", BAD);
            t.refused("see(0, 43, " + how + ")", BAD);
        }
        t.due("see(0, 0, 2)", 1);
        t.due("see(0, 11, 2)", 1);
        t.due("see(0, 11, 1)", 2);
        t.due("see(0, 0, 1)", 2);
    }

    private static void seeHow() {
        Told t = told("SEEN there (how = 1), gone (2), not SEEN (0):");
        t.given("leaf(1, 2, 0, 0)");
        t.refusedBeyond("see(0, 0, X)", 0, 2, BAD);
        t.refusedBeyond("see(0, 1, X)", 0, 2, BAD);
        for (int line = 0; line < 3; line++) {
            int was = new int[] {1, 2, 0}[line];
            for (int how : new int[] {0, 0, 1, 1, 2, 2, 0, 2, 1, 0}) {
                t.due("see(0, " + line + ", " + how + ")", was);
                was = how;
            }
        }
    }

    private static void othersAreNotSeen() {
        Told t = told("others are not SEEN:");
        t.given("leaf(1, 2, 0, 0)");
        t.due("see(0, 0, 0)", 1);
        t.due("see(0, 1, 0)", 2);
        for (int line = 2; line < 12; line++) {
            t.due("see(0, " + line + ", 0)", 0);
        }
    }

    private static void seeMakesNoneBoth() {
        Told t = told("none is both, from there to gone and back:");
        t.given("leaf(1, 0, 0, 0)", "state(1, 1500, 1900)", "state(0, 1500, 1900)");
        t.due("candidates(0)", 1);
        t.given("see(0, 0, 2)");
        t.due("candidates(0)", 2);
        t.given("see(0, 0, 1)");
        t.due("candidates(0)", 1);
        t.given("see(0, 0, 0)");
        t.due("candidates(0)", 3);
    }

    // ---- candidates

    private static void candidatesWhichLeaf() {
        Told t = told("CANDIDATES, BAD:");
        t.refusedBeyond("candidates(X)", 0, -1, BAD);
        t.given("leaf(0, 0, 0, 0)", "leaf(1, 0, 0, 0)", "state(0, 1500, 1900)");
        t.refusedBeyond("candidates(X)", 0, 1, BAD);
        t.due("candidates(0)", 1);
        t.due("candidates(1)", 0);
    }

    private static void allThatItHasThere() {
        Told t = told("a STATE that has all that it has there:");
        t.given("leaf(2049, 0, 0, 0)", "state(2048, 1500, 1900)", "state(1, 1500, 1900)");
        t.given("state(2049, 1500, 1900)", "state(4095, 1500, 1900)", "state(2046, 1500, 1900)");
        t.due("candidates(0)", 4 + 8);
    }

    private static void noneThatIsGone() {
        Told t = told("none that is gone:");
        t.given("leaf(0, 2049, 0, 0)", "state(2048, 1500, 1900)", "state(1, 1500, 1900)");
        t.given("state(2049, 1500, 1900)", "state(0, 1500, 1900)", "state(2046, 1500, 1900)");
        t.due("candidates(0)", 8 + 16);
    }

    private static void candidatesAtTheEdges() {
        Told t = told("CANDIDATES (bits), none and all:");
        t.given("leaf(0, 0, 0, 0)", "leaf(4095, 0, 0, 0)", "leaf(0, 4095, 0, 0)");
        for (int leaf = 0; leaf < 3; leaf++) {
            t.due("candidates(" + leaf + ")", 0);
        }
        for (int lines : new int[] {0, 4095, 1, 4094, 4095, 0}) {
            t.given("state(" + lines + ", 1500, 1900)");
        }
        t.due("candidates(0)", 63);
        t.due("candidates(1)", 2 + 16);
        t.due("candidates(2)", 1 + 32);
    }

    private static void candidatesOfLaterStates() {
        Told t = told("CANDIDATES: the STATES that there are:");
        t.given("leaf(1, 0, 0, 0)");
        for (int i = 0; i < 6; i++) {
            t.due("candidates(0)", (1 << i) - 1);
            t.given("state(1, 1500, 1900)");
        }
        t.due("candidates(0)", 63);
    }

    private static void worn() {
        Told t = told("WORN, CANDIDATES may become more:");
        t.given("leaf(7, 0, 0, 0)", "state(0, 1500, 1900)", "state(1, 1500, 1900)");
        t.given("state(3, 1500, 1900)", "state(7, 1500, 1900)");
        t.due("candidates(0)", 8);
        t.given("see(0, 2, 0)");
        t.due("candidates(0)", 12);
        t.given("see(0, 1, 0)");
        t.due("candidates(0)", 14);
        t.given("see(0, 0, 0)");
        t.due("candidates(0)", 15);
        t.given("see(0, 0, 0)");
        t.due("candidates(0)", 15);
    }

    // ---- paper

    private static void eightMoulds() {
        Told t = told("MOULDS (8 at most):");
        t.given("leaf(0, 0, 0, 0)", "state(0, 1500, 1900)");
        for (int i = 0; i < 8; i++) {
            t.due("mould(" + (1600 + i) + ", 1700)", i);
        }
        t.refused("mould(1500, 1900)", PlateRoom.FULL);
        t.refused("mould(1607, 1700)", PlateRoom.FULL);
        t.due("count(2)", 8);
        t.due("paper(0, 7)", NONE);
        t.due("span(0, 0)", 1607);
        t.refused("paper(0, 8)", -2);
    }

    private static void yearsOfMoulds() {
        Told t = told("MOULDS have YEARS, 1500 .. 1900:");
        t.refused("mould(1499, 1499)", BAD);
        t.refused("mould(1901, 1901)", BAD);
        t.refusedBeyond("mould(X, 1900)", 1500, 1900, BAD);
        t.refusedBeyond("mould(1500, X)", 1500, 1900, BAD);
        t.due("mould(1500, 1900)", 0);
    }

    private static void mouldFromAndTo() {
        Told t = told("MOULDS have YEARS from .. to:");
        t.refused("mould(1701, 1700)", BAD);
        t.refused("mould(1900, 1500)", BAD);
        t.due("mould(1700, 1700)", 0);
        t.due("mould(1500, 1500)", 1);
        t.due("mould(1900, 1900)", 2);
    }

    private static void paperWhichLeaf() {
        Told t = told("A LEAF has a MOULD, no such LEAF is told as -2:");
        t.refusedBeyond("paper(X, -9)", 0, -1, -2);
        t.given("leaf(0, 0, 0, 0)", "leaf(0, 0, 0, 0)", "mould(1600, 1650)");
        t.refusedBeyond("paper(X, 0)", 0, 1, -2);
        t.refusedBeyond("paper(X, -9)", 0, 1, -2);
        t.due("paper(1, 0)", NONE);
        t.due("paper(0, 0)", NONE);
    }

    private static void paperWhichMould() {
        Told t = told("A LEAF has a MOULD, no such MOULD is told as -2:");
        t.given("leaf(0, 0, 0, 0)");
        t.refusedBeyond("paper(0, X)", 0, -1, -2);
        t.given("mould(1600, 1650)", "mould(1700, 1750)");
        t.refusedBeyond("paper(0, X)", 0, 1, -2);
        t.due("paper(0, 1)", NONE);
        t.refusedBeyond("paper(0, X)", 0, 1, -2);
        t.due("paper(0, 0)", 1);
        t.due("paper(0, 0)", 0);
    }

    private static void paperNone() {
        Told t = told("A LEAF has a MOULD (NONE: none):");
        t.given("leaf(0, 0, 0, 0)", "mould(1600, 1650)");
        for (int near : new int[] {-10, -8, 9, -2, -3}) {
            t.refused("paper(0, " + near + ")", -2);
        }
        t.due("paper(0, -9)", NONE);
        t.due("paper(0, 0)", NONE);
        t.due("paper(0, -9)", 0);
        t.due("paper(0, -9)", NONE);
    }

    private static void imprintWhichLeaf() {
        Told t = told("A LEAF has an IMPRINT, no such LEAF is told as -2:");
        t.refusedBeyond("imprint(X, 1600)", 0, -1, -2);
        t.given("leaf(0, 0, 0, 0)", "leaf(0, 0, 0, 0)");
        t.refusedBeyond("imprint(X, 1600)", 0, 1, -2);
        t.refusedBeyond("imprint(X, -9)", 0, 1, -2);
        t.due("imprint(1, 1600)", NONE);
        t.due("imprint(0, 1600)", NONE);
    }

    private static void imprintYears() {
        Told t = told("A LEAF has an IMPRINT (a YEAR), BAD is told as -2:");
        t.given("leaf(0, 0, 0, 0)");
        t.refusedBeyond("imprint(0, X)", 1500, 1900, -2);
        t.due("imprint(0, 1500)", NONE);
        t.refusedBeyond("imprint(0, X)", 1500, 1900, -2);
        t.due("imprint(0, 1900)", 1500);
        t.due("imprint(0, 1900)", 1900);
    }

    private static void imprintNone() {
        Told t = told("A LEAF has an IMPRINT (NONE):");
        t.given("leaf(0, 0, 0, 0)");
        for (int near : new int[] {-10, -8, 9, -1, 0}) {
            t.refused("imprint(0, " + near + ")", -2);
        }
        t.due("imprint(0, -9)", NONE);
        t.due("imprint(0, 1700)", NONE);
        t.due("imprint(0, -9)", 1700);
        t.due("imprint(0, -9)", NONE);
    }

    // ---- span

    private static void spanIs(Told t, int first, int last) {
        t.due("span(0, 0)", first);
        t.due("span(0, 1)", last);
    }

    private static void spanWhichLeaf() {
        Told t = told("SPAN of a LEAF, BAD:");
        t.refusedBeyond("span(X, 0)", 0, -1, BAD);
        t.given("leaf(0, 0, 0, 0)", "leaf(1, 0, 0, 0)", "state(1, 1600, 1650)");
        t.refusedBeyond("span(X, 0)", 0, 1, BAD);
        t.refusedBeyond("span(X, 1)", 0, 1, BAD);
        t.due("span(1, 0)", 1600);
    }

    private static void spanWhat() {
        Told t = told("SPAN: the first (what = 0), the last YEAR (1):");
        t.given("leaf(0, 0, 0, 0)");
        t.refusedBeyond("span(0, X)", 0, 1, BAD);
        t.given("state(1, 1600, 1650)");
        t.refusedBeyond("span(0, X)", 0, 1, BAD);
        spanIs(t, 1600, 1650);
    }

    private static void spanWithoutCandidates() {
        Told t = told("SPAN, NONE: it has no CANDIDATES:");
        t.given("leaf(1, 0, 0, 0)");
        spanIs(t, NONE, NONE);
        t.given("state(2, 1500, 1900)", "mould(1600, 1650)", "paper(0, 0)");
        spanIs(t, NONE, NONE);
        t.given("imprint(0, 1620)");
        spanIs(t, NONE, NONE);
    }

    private static void spanWithoutMouldOrImprint() {
        Told t = told("a LEAF has a MOULD, or none; an IMPRINT, or none:");
        t.given("leaf(0, 0, 0, 0)", "state(0, 1500, 1900)", "mould(1600, 1650)");
        spanIs(t, 1500, 1900);
        t.given("paper(0, 0)");
        spanIs(t, 1600, 1650);
        t.given("imprint(0, 1625)");
        spanIs(t, 1625, 1650);
        t.given("paper(0, -9)");
        spanIs(t, 1625, 1900);
        t.given("imprint(0, -9)");
        spanIs(t, 1500, 1900);
    }

    /** The STATE's YEARS are 1600 .. 1650: a MOULD ahead, at its first, within, around, at its last, behind. */
    private static void spanInTheMoulds() {
        Told t = told("YEARS that are in the STATE's, in its MOULD's:");
        t.given("leaf(0, 0, 0, 0)", "state(0, 1600, 1650)");
        t.given("mould(1550, 1599)", "mould(1550, 1600)", "mould(1610, 1640)", "mould(1599, 1651)");
        t.given("mould(1650, 1700)", "mould(1651, 1700)", "mould(1600, 1650)", "mould(1601, 1649)");
        int[][] spans = {
            {NONE, NONE}, {1600, 1600}, {1610, 1640}, {1600, 1650},
            {1650, 1650}, {NONE, NONE}, {1600, 1650}, {1601, 1649},
        };
        for (int mould = 0; mould < 8; mould++) {
            t.given("paper(0, " + mould + ")");
            spanIs(t, spans[mould][0], spans[mould][1]);
        }
    }

    private static void spanNotAheadOfTheImprint() {
        Told t = told("YEARS not ahead of its IMPRINT:");
        t.given("leaf(0, 0, 0, 0)", "state(0, 1600, 1650)");
        int[][] spans = {
            {1500, 1600, 1650}, {1599, 1600, 1650}, {1600, 1600, 1650}, {1601, 1601, 1650}, {1649, 1649, 1650},
            {1650, 1650, 1650}, {1651, NONE, NONE}, {1900, NONE, NONE},
        };
        for (int[] s : spans) {
            t.given("imprint(0, " + s[0] + ")");
            spanIs(t, s[1], s[2]);
        }
    }

    private static void spanOfOneYear() {
        Told t = told("SPAN of one YEAR, by STATE, MOULD and IMPRINT:");
        t.given("leaf(0, 0, 0, 0)", "state(0, 1700, 1700)", "mould(1700, 1700)", "paper(0, 0)", "imprint(0, 1700)");
        spanIs(t, 1700, 1700);
        t.given("imprint(0, 1701)");
        spanIs(t, NONE, NONE);
    }

    private static void spanAtTheFirstAndLastYear() {
        Told t = told("SPAN at the YEARS 1500 and 1900:");
        t.given("leaf(1, 0, 0, 0)", "state(1, 1500, 1500)", "state(2, 1900, 1900)");
        spanIs(t, 1500, 1500);
        t.given("see(0, 0, 0)");
        spanIs(t, 1500, 1900);
        t.given("see(0, 1, 1)");
        spanIs(t, 1900, 1900);
        t.given("imprint(0, 1900)");
        spanIs(t, 1900, 1900);
    }

    private static void spanFromLeastToGreatest() {
        Told t = told("from the least to the greatest YEAR of SPANS:");
        t.given("leaf(0, 0, 0, 0)", "state(0, 1700, 1710)", "state(0, 1600, 1610)", "state(0, 1800, 1810)");
        t.given("state(0, 1750, 1755)");
        spanIs(t, 1600, 1810);
        t.given("imprint(0, 1611)");
        spanIs(t, 1700, 1810);
        t.given("imprint(0, 1756)");
        spanIs(t, 1800, 1810);
        t.given("imprint(0, 1811)");
        spanIs(t, NONE, NONE);
    }

    private static void spanByCandidatesAlone() {
        Told t = told("SPANS by its CANDIDATES:");
        t.given("leaf(1, 2, 0, 0)", "state(0, 1500, 1510)", "state(1, 1600, 1610)", "state(3, 1890, 1900)");
        spanIs(t, 1600, 1610);
        t.given("see(0, 1, 0)");
        spanIs(t, 1600, 1900);
        t.given("see(0, 0, 0)");
        spanIs(t, 1500, 1900);
    }

    private static void spanWhereSomeHaveNone() {
        Told t = told("SPANS by its CANDIDATES, of which one has no YEAR:");
        t.given("leaf(0, 0, 0, 0)", "state(0, 1500, 1599)", "state(0, 1640, 1660)", "state(0, 1701, 1900)");
        t.given("mould(1600, 1700)", "paper(0, 0)");
        spanIs(t, 1640, 1660);
        t.given("imprint(0, 1661)");
        spanIs(t, NONE, NONE);
    }

    private static void spanOfTheSixth() {
        Told t = told("SPANS by six CANDIDATES, the first and the sixth:");
        t.given("leaf(0, 0, 0, 0)", "state(0, 1600, 1601)");
        for (int i = 1; i < 5; i++) {
            t.given("state(0, 1700, 1700)");
        }
        t.given("state(0, 1800, 1801)");
        spanIs(t, 1600, 1801);
    }

    // ---- price

    private static void priceKinds() {
        Told t = told("KINDS: 0 PLAIN, 1 COLOURED, 2 WORM:");
        t.given("leaf(0, 0, 100, 1)", "state(0, 1500, 1900)", "hole(0, 0, 5)");
        t.refusedBeyond("price(X, 0)", 0, 2, BAD);
        t.due("price(0, 0)", 100);
        t.due("price(1, 0)", 150);
        t.due("price(2, 0)", 147);
    }

    private static void priceWhichLeaf() {
        Told t = told("PRICE of a LEAF, BAD:");
        t.refusedBeyond("price(0, X)", 0, -1, BAD);
        t.given("leaf(0, 0, 100, 0)", "leaf(0, 0, 200, 0)", "state(0, 1500, 1900)");
        for (int kind = 0; kind < 3; kind++) {
            t.refusedBeyond("price(" + kind + ", X)", 0, 1, BAD);
        }
        t.refused("price(3, 2)", BAD);
        t.due("price(0, 1)", 200);
    }

    private static void plainRoundedDown() {
        Told t = told("PLAIN WORTH, by how many CANDIDATES it has, rounded down:");
        t.given("leaf(0, 0, 1000, 0)", "leaf(0, 0, 5, 0)", "leaf(0, 0, 6, 0)");
        int[][] prices = {{1000, 5, 6}, {500, 2, 3}, {333, 1, 2}, {250, 1, 1}, {200, 1, 1}, {166, 0, 1}};
        for (int[] p : prices) {
            t.given("state(0, 1500, 1900)");
            for (int leaf = 0; leaf < 3; leaf++) {
                t.due("price(0, " + leaf + ")", p[leaf]);
            }
        }
    }

    private static void plainWithoutCandidates() {
        Told t = told("PLAIN 0 without CANDIDATES:");
        t.given("leaf(1, 0, 1000, 1)", "hole(0, 0, 1)");
        for (int kind = 0; kind < 3; kind++) {
            t.due("price(" + kind + ", 0)", 0);
        }
        t.due("trace()", 123);
        t.given("state(2, 1500, 1900)");
        t.due("price(0, 0)", 0);
        t.given("see(0, 0, 0)");
        t.due("price(0, 0)", 1000);
    }

    private static void plainOfLeastAndMostWorth() {
        Told t = told("PRICES of the least and the greatest WORTH:");
        t.given("state(0, 1500, 1900)", "leaf(0, 0, 0, 1)", "leaf(0, 0, 0, 2)", "leaf(0, 0, 1000, 1)");
        t.given("leaf(0, 0, 1000, 2)");
        int[] coloured = {0, 0, 1500, 750};
        for (int leaf = 0; leaf < 4; leaf++) {
            t.due("price(0, " + leaf + ")", leaf < 2 ? 0 : 1000);
            t.due("price(1, " + leaf + ")", coloured[leaf]);
            t.due("price(2, " + leaf + ")", coloured[leaf]);
        }
    }

    private static void colouredNotAtAll() {
        Told t = told("COLOURED up, where COLOUR is 0:");
        t.given("state(0, 1500, 1900)", "leaf(0, 0, 999, 0)", "leaf(0, 0, 1, 0)");
        t.due("price(1, 0)", 999);
        t.due("price(1, 1)", 1);
    }

    /** WORTH 0 .. 9, by one CANDIDATE. */
    private static void colouredIs(Told t, int colour, int... prices) {
        t.given("state(0, 1500, 1900)");
        for (int worth = 0; worth < prices.length; worth++) {
            t.given("leaf(0, 0, " + worth + ", " + colour + ")");
            t.due("price(1, " + worth + ")", prices[worth]);
        }
    }

    private static void colouredOldRoundedDown() {
        Told t = told("COLOURED and half of it, rounded down, where COLOUR is 1:");
        colouredIs(t, 1, 0, 1, 3, 4, 6, 7, 9, 10, 12, 13);
    }

    private static void colouredLaterRoundedUp() {
        Told t = told("COLOURED less a quarter of it, rounded up, where it is 2:");
        colouredIs(t, 2, 0, 0, 1, 2, 3, 3, 4, 5, 6, 6);
    }

    private static void wormForEachHole() {
        Told t = told("WORM up, less 3 for each HOLE:");
        t.given("state(0, 1500, 1900)", "leaf(0, 0, 100, 0)", "leaf(0, 0, 100, 0)");
        t.due("price(2, 0)", 100);
        for (int i = 1; i <= 6; i++) {
            t.given("hole(0, 0, " + (i * 10) + ")", "hole(0, 0, " + (i * 10) + ")", "hole(1, 0, " + i + ")");
            t.due("price(2, 0)", 100 - 3 * i);
        }
        t.refused("hole(0, 0, 70)", PlateRoom.FULL);
        t.due("price(2, 0)", 82);
        t.due("price(2, 1)", 100);
    }

    private static void wormAtLeastNothing() {
        Told t = told("WORM 0 at least:");
        t.given("state(0, 1500, 1900)");
        int[][] worths = {{0, 0}, {2, 0}, {3, 0}, {4, 1}, {5, 2}};
        for (int leaf = 0; leaf < worths.length; leaf++) {
            t.given("leaf(0, 0, " + worths[leaf][0] + ", 0)", "hole(0, " + leaf + ", 0)");
            t.due("price(2, " + leaf + ")", worths[leaf][1]);
        }
        for (int place = 1; place < 6; place++) {
            t.given("hole(0, 4, " + place + ")");
            t.due("price(2, 4)", 0);
        }
    }

    private static void priceComesToTheTrace() {
        Told t = told("numbers in brackets come to THE TRACE as often as price() asks that body:");
        t.given("leaf(0, 0, 10, 1)", "leaf(0, 0, 10, 2)");
        t.refusedBeyond("price(X, 0)", 0, 2, BAD);
        t.refusedBeyond("price(2, X)", 0, 1, BAD);
        t.due("trace()", 0);
        int sum = 0;
        int[] asked = {1, 11, 111};
        for (int leaf = 0; leaf < 2; leaf++) {
            for (int kind = 2; kind >= 0; kind--) {
                t.given("price(" + kind + ", " + leaf + ")");
                sum += asked[kind];
                t.due("trace()", sum);
            }
        }
        t.refused("price(" + LEAST + ", " + MOST + ")", BAD);
        t.due("trace()", 246);
    }
}
