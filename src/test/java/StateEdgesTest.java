/** The sentences on STATES, QUARREL, BEST ORDER (Terms 1, promises 1 to 6) that name a boundary case. */
public final class StateEdgesTest {
    private static final Due DUE = new Due();
    private static final int BAD = PlateRoom.BAD;

    public static void main(String[] args) {
        newObjectHasNothing();
        newObjectHasTheFirstCharges();
        linesOfStates();
        sixStates();
        yearsOfStates();
        yearsFromAndTo();
        aboutWhichState();
        aboutWhat();
        setWhat();
        cut();
        rub();
        again();
        loss();
        alone();
        quarrels();
        best();
        DUE.end();
    }

    private static void quarrels() {
        quarrelOfOneState();
        quarrelOfEachAndTheNext();
        quarrelOfALineThatComes();
        quarrelOfALineThatGoes();
        quarrelOfALineThatComesAgain();
        quarrelHavingGoneAhead();
        quarrelOfTheMost();
        digitsOfOne();
        digitsOfTwo();
        digitsOfFive();
        digitsOfSix();
        digitsNotEachOnce();
        quarrelWithoutStates();
    }

    private static void best() {
        bestWhat();
        bestWithoutStates();
        bestOfOne();
        bestIsTheLeast();
        bestFirstOfSeveral();
        bestFirstOfSixAlike();
        bestHalfAndHalf();
        bestWeighsAgain();
        bestByWhatStandsNow();
    }

    private static Told told(String sentence) {
        return new Told(DUE, sentence);
    }

    private static void newObjectHasNothing() {
        Told t = told("no STATES, LEAVES, MOULDS, MAPS, no HOLES:");
        for (int what = 0; what < 6; what++) {
            t.due("count(" + what + ")", 0);
        }
        t.due("trace()", 0);
        t.refused("about(0, 0)", BAD);
        t.refused("best(0)", PlateRoom.STATE);
        t.refused("candidates(0)", BAD);
        t.refused("see(0, 0, 0)", BAD);
        t.refused("span(0, 0)", BAD);
        t.refused("price(0, 0)", BAD);
        t.refused("home(0, 0)", BAD);
        t.refused("hole(0, 0, 0)", BAD);
        t.refused("from(0)", -2);
        t.refused("rivals(0)", BAD);
        t.refused("cost(0, -9)", BAD);
        t.refused("life(0, 0)", BAD);
        for (int book = 0; book < 4; book++) {
            t.due("hole(1, " + book + ", 0)", 1);
        }
        t.given("leaf(0, 0, 0, 0)");
        t.refused("paper(0, 0)", -2);
        t.due("hole(0, 0, 0)", 1);
    }

    private static void newObjectHasTheFirstCharges() {
        Told t = told("CUT 1, RUB 2, AGAIN 10, LOSS 2, ALONE 4 at first:");
        t.due("set(0, 1)", 1);
        t.due("set(1, 2)", 2);
        t.due("set(2, 10)", 10);
        t.due("set(3, 2)", 2);
        t.due("set(4, 4)", 4);
    }

    private static void linesOfStates() {
        Told t = told("LINES 0 .. 11 (bits):");
        t.refusedBeyond("state(X, 1500, 1900)", 0, 4095, BAD);
        t.due("state(0, 1500, 1900)", 0);
        t.due("state(4095, 1500, 1900)", 1);
        t.due("state(2048, 1500, 1900)", 2);
        t.due("state(1, 1500, 1900)", 3);
        t.due("about(0, 0)", 0);
        t.due("about(1, 0)", 4095);
        t.due("about(2, 0)", 2048);
        t.due("about(3, 0)", 1);
    }

    private static void sixStates() {
        Told t = told("STATES (6 at most):");
        for (int i = 0; i < 6; i++) {
            t.due("state(" + i + ", 1600, 1700)", i);
        }
        t.refused("state(6, 1601, 1701)", PlateRoom.FULL);
        t.refused("state(5, 1600, 1700)", PlateRoom.FULL);
        t.due("count(0)", 6);
        t.due("about(5, 0)", 5);
        t.due("about(5, 1)", 1600);
        t.due("about(5, 2)", 1700);
    }

    private static void yearsOfStates() {
        Told t = told("YEARS (1500 .. 1900):");
        t.refused("state(1, 1499, 1900)", BAD);
        t.refused("state(1, 1500, 1901)", BAD);
        t.refused("state(1, 1499, 1499)", BAD);
        t.refused("state(1, 1901, 1901)", BAD);
        t.refusedBeyond("state(1, X, 1900)", 1500, 1900, BAD);
        t.refusedBeyond("state(1, 1500, X)", 1500, 1900, BAD);
        t.due("state(1, 1500, 1900)", 0);
        t.due("about(0, 1)", 1500);
        t.due("about(0, 2)", 1900);
    }

    private static void yearsFromAndTo() {
        Told t = told("YEARS from .. to:");
        t.refused("state(1, 1701, 1700)", BAD);
        t.refused("state(1, 1900, 1500)", BAD);
        t.due("state(1, 1700, 1700)", 0);
        t.due("state(1, 1500, 1500)", 1);
        t.due("state(1, 1900, 1900)", 2);
        t.due("state(1, 1700, 1701)", 3);
        t.due("about(2, 1)", 1900);
        t.due("about(1, 2)", 1500);
    }

    private static void aboutWhichState() {
        Told t = told("LINES of a STATE, BAD:");
        t.refusedBeyond("about(X, 0)", 0, -1, BAD);
        t.given("state(3, 1600, 1650)", "state(5, 1700, 1750)");
        for (int what = 0; what < 3; what++) {
            t.refusedBeyond("about(X, " + what + ")", 0, 1, BAD);
        }
        t.due("about(1, 0)", 5);
        t.due("about(0, 0)", 3);
    }

    private static void aboutWhat() {
        Told t = told("LINES of a STATE (what = 0), its first (1), its last YEAR (2):");
        t.given("state(3, 1600, 1650)");
        t.refusedBeyond("about(0, X)", 0, 2, BAD);
        t.due("about(0, 0)", 3);
        t.due("about(0, 1)", 1600);
        t.due("about(0, 2)", 1650);
    }

    private static void setWhat() {
        Told t = told("CUT (what = 0), RUB (1), AGAIN (2), LOSS (3), ALONE (4):");
        t.refusedBeyond("set(X, 0)", 0, 4, BAD);
        t.refusedBeyond("set(X, 1)", 0, 4, BAD);
    }

    /** A charge at the least and the greatest, one beyond each; what it was is told. */
    private static Told charge(String sentence, int what, int first, int greatest) {
        Told t = told(sentence);
        String set = "set(" + what + ", ";
        t.refusedBeyond(set + "X)", 0, greatest, BAD);
        t.due(set + greatest + ")", first);
        t.refusedBeyond(set + "X)", 0, greatest, BAD);
        t.due(set + "0)", greatest);
        t.due(set + "0)", 0);
        t.due(set + (greatest - 1) + ")", 0);
        t.due(set + first + ")", greatest - 1);
        return t;
    }

    private static void cut() {
        Told t = charge("CUT (0 .. 9; 1 at first):", 0, 1, 9);
        t.given("state(0, 1500, 1900)", "state(1, 1500, 1900)");
        t.due("quarrel(1)", 1);
        t.given("set(0, 9)");
        t.due("quarrel(1)", 9);
        t.given("set(0, 0)");
        t.due("quarrel(1)", 0);
        t.due("quarrel(6)", 2);
    }

    private static void rub() {
        Told t = charge("RUB (0 .. 9; 2 at first):", 1, 2, 9);
        t.given("state(0, 1500, 1900)", "state(1, 1500, 1900)");
        t.due("quarrel(6)", 2);
        t.given("set(1, 9)");
        t.due("quarrel(6)", 9);
        t.given("set(1, 0)");
        t.due("quarrel(6)", 0);
        t.due("quarrel(1)", 1);
    }

    private static void again() {
        Told t = charge("AGAIN (0 .. 50; 10 at first):", 2, 10, 50);
        t.given("state(1, 1500, 1900)", "state(0, 1500, 1900)", "state(1, 1500, 1900)");
        t.due("quarrel(8)", 12);
        t.given("set(2, 50)");
        t.due("quarrel(8)", 52);
        t.given("set(2, 0)");
        t.due("quarrel(8)", 2);
    }

    private static void loss() {
        Told t = charge("LOSS (0 .. 9; 2 at first):", 3, 2, 9);
        t.given("map(1600, 3)", "map(1700, 0)");
        t.due("cost(1, 0)", 4);
        t.given("set(3, 9)");
        t.due("cost(1, 0)", 18);
        t.given("set(3, 0)");
        t.due("cost(1, 0)", 0);
        t.due("cost(1, -9)", 4);
    }

    private static void alone() {
        Told t = charge("ALONE (0 .. 20; 4 at first):", 4, 4, 20);
        t.given("map(1600, 3)");
        t.due("cost(0, -9)", 6);
        t.given("set(4, 20)");
        t.due("cost(0, -9)", 22);
        t.given("set(4, 0)");
        t.due("cost(0, -9)", 2);
    }

    private static void quarrelOfOneState() {
        Told t = told("for each one and the next, of one alone:");
        t.given("state(4095, 1500, 1900)");
        t.due("quarrel(0)", 0);
    }

    private static void quarrelOfEachAndTheNext() {
        Told t = told("for each one and the next, the last pair too:");
        t.given("state(0, 1500, 1900)", "state(0, 1500, 1900)", "state(7, 1500, 1900)");
        t.due("quarrel(8)", 3);
        t.due("quarrel(13)", 3 + 6);
        t.due("quarrel(73)", 6);
        t.due("quarrel(78)", 6);
    }

    private static void quarrelOfALineThatComes() {
        Told t = told("a LINE that comes costs CUT:");
        t.given("state(0, 1500, 1900)", "state(4095, 1500, 1900)", "state(4095, 1500, 1900)");
        t.due("quarrel(8)", 12);
        t.given("set(0, 9)");
        t.due("quarrel(8)", 108);
    }

    private static void quarrelOfALineThatGoes() {
        Told t = told("one that goes RUB:");
        t.given("state(4095, 1500, 1900)", "state(4095, 1500, 1900)", "state(0, 1500, 1900)");
        t.due("quarrel(8)", 24);
        t.given("set(1, 9)");
        t.due("quarrel(8)", 108);
    }

    /** A LINE of the first STATE did not come, but it has gone, and comes again each time. */
    private static void quarrelOfALineThatComesAgain() {
        Told t = told("one that comes again AGAIN in place of CUT:");
        for (int i = 0; i < 3; i++) {
            t.given("state(1, 1500, 1900)", "state(0, 1500, 1900)");
        }
        t.due("quarrel(1865)", 2 + 10 + 2 + 10 + 2);
        t.due("quarrel(8530)", 1 + 2 + 10 + 2 + 10);
        t.given("set(2, 0)");
        t.due("quarrel(1865)", 6);
        t.due("quarrel(8530)", 5);
    }

    /** Only a line that has gone comes again; a line that comes with it, or goes later, does not. */
    private static void quarrelHavingGoneAhead() {
        Told t = told("having gone ahead in that order:");
        t.given("state(1, 1500, 1900)", "state(0, 1500, 1900)", "state(3, 1500, 1900)");
        t.due("quarrel(8)", 2 + 10 + 1);
        t.due("quarrel(13)", 1 + 4);
        t.due("quarrel(38)", 1 + 1);
        t.due("quarrel(48)", 2 + 2);
    }

    private static void quarrelOfTheMost() {
        Told t = told("the greatest QUARREL:");
        for (int i = 0; i < 3; i++) {
            t.given("state(4095, 1500, 1900)", "state(0, 1500, 1900)");
        }
        t.given("set(0, 9)", "set(1, 9)", "set(2, 50)");
        t.due("quarrel(8530)", 12 * (9 + 9 + 50 + 9 + 50));
        t.due("quarrel(1865)", 12 * (9 + 50 + 9 + 50 + 9));
    }

    private static void digitsOfOne() {
        Told t = told("digits by 6, as many as there are, one:");
        t.given("state(1, 1500, 1900)");
        t.due("quarrel(0)", 0);
        for (int order : new int[] {-1, 1, 5, 6, 36, Integer.MIN_VALUE, Integer.MAX_VALUE}) {
            t.refused("quarrel(" + order + ")", BAD);
        }
    }

    private static void digitsOfTwo() {
        Told t = told("digits by 6, as many as there are, two:");
        t.given("state(1, 1500, 1900)", "state(3, 1500, 1900)");
        t.due("quarrel(1)", 1);
        t.due("quarrel(6)", 2);
        for (int order : new int[] {-1, -6, 0, 2, 5, 7, 12, 8, 36 + 1, 36 + 6, 46656 + 1}) {
            t.refused("quarrel(" + order + ")", BAD);
        }
    }

    /** 1865 is 0, 1, 2, 3, 4, 5 of six STATES; of five it is 1, 2, 3, 4, 5. */
    private static void digitsOfFive() {
        Told t = told("digits by 6, as many as there are, five and six:");
        for (int i = 0; i < 5; i++) {
            t.given("state(" + ((1 << i) - 1) + ", 1500, 1900)");
        }
        t.due("quarrel(310)", 4);
        t.due("quarrel(5910)", 8);
        t.refused("quarrel(1865)", BAD);
        t.refused("quarrel(7776)", BAD);
        t.refused("quarrel(8086)", BAD);
        t.given("state(31, 1500, 1900)");
        t.due("quarrel(1865)", 5);
        t.refused("quarrel(310)", BAD);
    }

    private static void digitsOfSix() {
        Told t = told("digits by 6, the first one the highest:");
        for (int i = 0; i < 6; i++) {
            t.given("state(" + ((1 << i) - 1) + ", 1500, 1900)");
        }
        t.due("quarrel(1865)", 5);
        t.due("quarrel(44790)", 10);
        int[] bad = {
            1864, 1866, 44789, 44791, 46655, 46656, 46656 + 1865, 46656 + 44790, 0, -1, -1865, -44790,
            Integer.MAX_VALUE, Integer.MIN_VALUE, Integer.MIN_VALUE + 1865,
        };
        for (int order : bad) {
            t.refused("quarrel(" + order + ")", BAD);
        }
    }

    private static void digitsNotEachOnce() {
        Told t = told("BAD: not each once:");
        t.given("state(1, 1500, 1900)", "state(3, 1500, 1900)", "state(7, 1500, 1900)");
        for (int first = 0; first < 6; first++) {
            for (int next = 0; next < 6; next++) {
                for (int last = 0; last < 6; last++) {
                    boolean each = first < 3 && next < 3 && last < 3 && first != next && next != last && first != last;
                    if (!each) {
                        t.due("quarrel(" + (first * 36 + next * 6 + last) + ")", BAD);
                    }
                }
            }
        }
    }

    private static void quarrelWithoutStates() {
        Told t = told("BAD: there are no STATES:");
        for (int order : new int[] {0, 1, -1, 1865, Integer.MIN_VALUE, Integer.MAX_VALUE}) {
            t.refused("quarrel(" + order + ")", BAD);
        }
    }

    private static void bestWhat() {
        Told t = told("BEST ORDER (what = 0), its QUARREL (1):");
        t.given("state(1, 1500, 1900)", "state(0, 1500, 1900)");
        t.refusedBeyond("best(X)", 0, 1, BAD);
        t.due("best(0)", 6);
        t.due("best(1)", 1);
    }

    private static void bestWithoutStates() {
        Told t = told("STATE: there are no STATES; BAD ahead of it:");
        t.refused("best(0)", PlateRoom.STATE);
        t.refused("best(1)", PlateRoom.STATE);
        t.refusedBeyond("best(X)", 0, 1, BAD);
    }

    private static void bestOfOne() {
        Told t = told("BEST ORDER of one:");
        t.given("state(4095, 1500, 1900)");
        t.due("best(0)", 0);
        t.due("best(1)", 0);
    }

    private static void bestIsTheLeast() {
        Told t = told("that with the least:");
        for (int i = 5; i >= 0; i--) {
            t.given("state(" + ((1 << i) - 1) + ", 1500, 1900)");
        }
        t.due("best(0)", 44790);
        t.due("best(1)", 5);
        t.given("set(0, 3)");
        t.due("best(0)", 1865);
        t.due("best(1)", 10);
    }

    private static void bestFirstOfSeveral() {
        Told t = told("of several the first by the STATES' numbers:");
        t.given("state(1, 1500, 1900)", "state(2, 1500, 1900)");
        t.due("best(0)", 1);
        t.due("best(1)", 3);
        t.given("state(4, 1500, 1900)");
        t.due("best(0)", 8);
        t.due("best(1)", 6);
    }

    private static void bestFirstOfSixAlike() {
        Told t = told("of several the first, of 720:");
        for (int i = 0; i < 6; i++) {
            t.given("state(9, 1500, 1900)");
        }
        t.due("best(0)", 1865);
        t.due("best(1)", 0);
    }

    private static void bestHalfAndHalf() {
        Told t = told("of several the first, of two halves:");
        for (int i = 0; i < 3; i++) {
            t.given("state(4095, 1500, 1900)", "state(0, 1500, 1900)");
        }
        t.given("set(0, 9)", "set(1, 9)", "set(2, 50)");
        t.due("best(0)", 3515);
        t.due("best(1)", 108);
        t.given("set(0, 8)");
        t.due("best(0)", 12760);
        t.due("best(1)", 96);
    }

    /** Where cutting is dear and rubbing free, a line is left to come again only if that is free too. */
    private static void bestWeighsAgain() {
        Told t = told("BEST ORDER, with AGAIN:");
        t.given("state(1, 1500, 1900)", "state(0, 1500, 1900)", "state(1, 1500, 1900)");
        t.due("best(0)", 38);
        t.due("best(1)", 1);
        t.given("set(0, 9)", "set(1, 0)", "set(2, 0)");
        t.due("best(0)", 8);
        t.due("best(1)", 0);
        t.given("set(2, 1)");
        t.due("best(0)", 13);
        t.due("best(1)", 0);
    }

    private static void bestByWhatStandsNow() {
        Told t = told("BEST ORDER of all STATES, by the charges that stand:");
        t.given("state(3, 1500, 1900)", "state(0, 1500, 1900)");
        t.due("best(0)", 6);
        t.given("state(1, 1500, 1900)");
        t.due("best(0)", 36 + 12);
        t.due("best(1)", 2);
        t.given("set(1, 0)");
        t.due("best(0)", 2 * 6 + 1);
        t.due("best(1)", 0);
    }
}
