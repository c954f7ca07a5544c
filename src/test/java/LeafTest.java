/** Promises 7 to 14: leaf, see, candidates, mould, paper, imprint, span, price. */
public final class LeafTest {
    private static final Due DUE = new Due();
    private static final int LEAST = Integer.MIN_VALUE;
    private static final int MOST = Integer.MAX_VALUE;

    public static void main(String[] args) {
        promise7Leaf();
        promise8See();
        promise9Candidates();
        promise10Mould();
        promise11Paper();
        promise12Imprint();
        promise13Span();
        promise13Gap();
        promise14PlainAndColoured();
        promise14Worm();
        DUE.end();
    }

    private static void refuseLeaves(PlateRoom x) {
        int[][] bad = {
            {-1, 0, 0, 0}, {4096, 0, 0, 0}, {0, -1, 0, 0}, {0, 4096, 0, 0}, {3, 6, 0, 0},
            {0, 0, -1, 0}, {0, 0, 1001, 0}, {0, 0, 0, -1}, {0, 0, 0, 3},
            {LEAST, MOST, 0, 0}, {0, 0, MOST, LEAST},
        };
        for (int[] b : bad) {
            DUE.is("leaf of " + b[0] + " " + b[1] + " " + b[2] + " " + b[3],
                    x.leaf(b[0], b[1], b[2], b[3]), PlateRoom.BAD);
        }
    }

    private static void promise7Leaf() {
        PlateRoom x = new PlateRoom();
        refuseLeaves(x);
        DUE.is("count(1) after BAD", x.count(1), 0);
        DUE.is("leaf(4095, 0, 1000, 2)", x.leaf(4095, 0, 1000, 2), 0);
        DUE.is("leaf(0, 4095, 0, 0)", x.leaf(0, 4095, 0, 0), 1);
        for (int i = 2; i < 20; i++) {
            DUE.is("leaf " + i, x.leaf(1, 2, 3, 1), i);
        }
        DUE.is("leaf 20", x.leaf(1, 2, 3, 1), PlateRoom.FULL);
        refuseLeaves(x);
        DUE.is("count(1)", x.count(1), 20);
        DUE.is("no MOULD", x.paper(19, -9), PlateRoom.NONE);
        DUE.is("no IMPRINT", x.imprint(19, -9), PlateRoom.NONE);
        DUE.is("no HOLES", x.hole(0, 19, 5), 1);
        x.state(4095, 1500, 1900);
        DUE.is("its WORTH and COLOUR", x.price(1, 0), 750);
    }

    private static void promise8See() {
        PlateRoom x = new PlateRoom();
        x.leaf(1, 2048, 0, 0);
        x.leaf(0, 0, 0, 0);
        DUE.is("see(0, 0, 2)", x.see(0, 0, 2), 1);
        DUE.is("see(0, 0, 1)", x.see(0, 0, 1), 2);
        DUE.is("see(0, 0, 1)", x.see(0, 0, 1), 1);
        DUE.is("see(0, 0, 0)", x.see(0, 0, 0), 1);
        DUE.is("see(0, 0, 0)", x.see(0, 0, 0), 0);
        DUE.is("see(0, 11, 0)", x.see(0, 11, 0), 2);
        DUE.is("see(0, 11, 2)", x.see(0, 11, 2), 0);
        int[][] bad = {
            {2, 0, 0}, {-1, 0, 0}, {0, 12, 0}, {0, -1, 0}, {0, 11, 3}, {0, 11, -1},
            {MOST, 0, 0}, {0, MOST, 0}, {0, LEAST, 1}, {0, 11, MOST}, {0, 32, 1},
        };
        for (int[] b : bad) {
            DUE.is("see of " + b[0] + " " + b[1] + " " + b[2], x.see(b[0], b[1], b[2]), PlateRoom.BAD);
        }
        DUE.is("see(0, 11, 0) after BAD", x.see(0, 11, 0), 2);
        DUE.is("see(0, 0, 0) after BAD", x.see(0, 0, 0), 0);
        DUE.is("the other leaf", x.see(1, 0, 0), 0);
    }

    private static void promise9Candidates() {
        PlateRoom x = new PlateRoom();
        x.leaf(1, 2, 0, 0);
        x.leaf(0, 0, 0, 0);
        DUE.is("candidates(0) without STATES", x.candidates(0), 0);
        x.state(1, 1500, 1900);
        x.state(3, 1500, 1900);
        x.state(5, 1500, 1900);
        x.state(4, 1500, 1900);
        DUE.is("candidates(0)", x.candidates(0), 5);
        DUE.is("candidates(1)", x.candidates(1), 15);
        x.see(0, 2, 1);
        DUE.is("candidates(0), one line more", x.candidates(0), 4);
        x.see(0, 0, 0);
        DUE.is("candidates(0), worn", x.candidates(0), 12);
        x.see(0, 1, 0);
        x.see(0, 2, 0);
        DUE.is("candidates(0), all worn", x.candidates(0), 15);
        for (int leaf : new int[] {2, -1, 20, LEAST, MOST}) {
            DUE.is("candidates(" + leaf + ")", x.candidates(leaf), PlateRoom.BAD);
        }
    }

    private static void refuseMoulds(PlateRoom x) {
        int[][] bad = {{1499, 1600}, {1600, 1901}, {1601, 1600}, {LEAST, 1600}, {1600, MOST}, {1901, 1901}};
        for (int[] b : bad) {
            DUE.is("mould of " + b[0] + " " + b[1], x.mould(b[0], b[1]), PlateRoom.BAD);
        }
    }

    private static void promise10Mould() {
        PlateRoom x = new PlateRoom();
        refuseMoulds(x);
        DUE.is("count(2) after BAD", x.count(2), 0);
        DUE.is("mould(1500, 1900)", x.mould(1500, 1900), 0);
        for (int i = 1; i < 8; i++) {
            DUE.is("mould " + i, x.mould(1600 + i, 1600 + i), i);
        }
        DUE.is("mould 8", x.mould(1600, 1700), PlateRoom.FULL);
        refuseMoulds(x);
        DUE.is("count(2)", x.count(2), 8);
    }

    private static void promise11Paper() {
        PlateRoom x = new PlateRoom();
        x.leaf(0, 0, 0, 0);
        x.leaf(0, 0, 0, 0);
        DUE.is("paper(0, 0) without MOULDS", x.paper(0, 0), -2);
        x.mould(1600, 1650);
        x.mould(1700, 1750);
        DUE.is("paper(0, 1)", x.paper(0, 1), PlateRoom.NONE);
        DUE.is("paper(0, 0)", x.paper(0, 0), 1);
        DUE.is("paper(1, -9)", x.paper(1, -9), PlateRoom.NONE);
        int[][] bad = {{0, 2}, {0, -1}, {0, 8}, {2, 0}, {-1, 0}, {2, -9}, {0, LEAST}, {MOST, MOST}};
        for (int[] b : bad) {
            DUE.is("paper of " + b[0] + " " + b[1], x.paper(b[0], b[1]), -2);
        }
        DUE.is("paper(0, -9) after BAD", x.paper(0, -9), 0);
        DUE.is("paper(0, -9) again", x.paper(0, -9), PlateRoom.NONE);
    }

    private static void promise12Imprint() {
        PlateRoom x = new PlateRoom();
        x.leaf(0, 0, 0, 0);
        x.leaf(0, 0, 0, 0);
        DUE.is("imprint(0, 1500)", x.imprint(0, 1500), PlateRoom.NONE);
        DUE.is("imprint(0, 1900)", x.imprint(0, 1900), 1500);
        DUE.is("imprint(1, 1700)", x.imprint(1, 1700), PlateRoom.NONE);
        int[][] bad = {{0, 1499}, {0, 1901}, {0, -1}, {0, 0}, {2, 1600}, {-1, 1600}, {2, -9}, {0, LEAST}, {MOST, MOST}};
        for (int[] b : bad) {
            DUE.is("imprint of " + b[0] + " " + b[1], x.imprint(b[0], b[1]), -2);
        }
        DUE.is("imprint(0, -9) after BAD", x.imprint(0, -9), 1900);
        DUE.is("imprint(0, -9) again", x.imprint(0, -9), PlateRoom.NONE);
    }

    private static void spanIs(PlateRoom x, String when, int first, int last) {
        DUE.is("span(0, 0) " + when, x.span(0, 0), first);
        DUE.is("span(0, 1) " + when, x.span(0, 1), last);
    }

    private static void promise13Span() {
        PlateRoom x = new PlateRoom();
        x.leaf(1, 0, 0, 0);
        spanIs(x, "without STATES", PlateRoom.NONE, PlateRoom.NONE);
        x.state(2, 1510, 1890);
        spanIs(x, "without CANDIDATES", PlateRoom.NONE, PlateRoom.NONE);
        x.state(1, 1600, 1650);
        spanIs(x, "by one", 1600, 1650);
        x.mould(1650, 1700);
        x.mould(1651, 1700);
        x.mould(1500, 1600);
        x.paper(0, 0);
        spanIs(x, "one YEAR in the MOULD's", 1650, 1650);
        x.paper(0, 1);
        spanIs(x, "no YEAR in the MOULD's", PlateRoom.NONE, PlateRoom.NONE);
        x.paper(0, 2);
        spanIs(x, "the first YEAR in the MOULD's", 1600, 1600);
        x.paper(0, -9);
        x.imprint(0, 1620);
        spanIs(x, "by an IMPRINT", 1620, 1650);
        x.imprint(0, 1650);
        spanIs(x, "by the last IMPRINT", 1650, 1650);
        x.imprint(0, 1651);
        spanIs(x, "by an IMPRINT too late", PlateRoom.NONE, PlateRoom.NONE);
        x.imprint(0, 1500);
        spanIs(x, "by an IMPRINT ahead of all", 1600, 1650);
        int[][] bad = {{0, 2}, {0, -1}, {1, 0}, {-1, 0}, {0, LEAST}, {MOST, 0}};
        for (int[] b : bad) {
            DUE.is("span of " + b[0] + " " + b[1], x.span(b[0], b[1]), PlateRoom.BAD);
        }
    }

    private static void promise13Gap() {
        PlateRoom x = new PlateRoom();
        x.leaf(0, 0, 0, 0);
        x.state(0, 1700, 1720);
        x.state(0, 1600, 1610);
        x.state(0, 1650, 1800);
        x.state(0, 1640, 1645);
        spanIs(x, "by four", 1600, 1800);
        x.mould(1611, 1639);
        x.mould(1605, 1700);
        x.paper(0, 0);
        spanIs(x, "in a gap", PlateRoom.NONE, PlateRoom.NONE);
        x.paper(0, 1);
        spanIs(x, "by four and a MOULD", 1605, 1700);
        x.imprint(0, 1611);
        spanIs(x, "the IMPRINT is in a gap", 1640, 1700);
        x.imprint(0, 1643);
        spanIs(x, "by the later of MOULD and IMPRINT", 1643, 1700);
    }

    private static void promise14PlainAndColoured() {
        PlateRoom x = new PlateRoom();
        x.leaf(0, 0, 1000, 0);
        x.leaf(0, 0, 101, 1);
        x.leaf(0, 0, 101, 2);
        DUE.is("price(0, 0) without CANDIDATES", x.price(0, 0), 0);
        DUE.is("price(1, 1) without CANDIDATES", x.price(1, 1), 0);
        DUE.is("price(1, 2) without CANDIDATES", x.price(1, 2), 0);
        x.state(0, 1500, 1900);
        DUE.is("price(0, 0)", x.price(0, 0), 1000);
        DUE.is("price(1, 0)", x.price(1, 0), 1000);
        DUE.is("price(1, 1): half of 101 is 50", x.price(1, 1), 151);
        DUE.is("price(1, 2): a quarter of 101 is 26", x.price(1, 2), 75);
        x.state(0, 1500, 1900);
        x.state(0, 1500, 1900);
        DUE.is("price(0, 0) by three", x.price(0, 0), 333);
        DUE.is("price(1, 1): 33 and 16", x.price(1, 1), 49);
        DUE.is("price(1, 2): 33 less 9", x.price(1, 2), 24);
        int[][] bad = {{3, 0}, {-1, 0}, {0, 3}, {0, -1}, {LEAST, 0}, {0, MOST}};
        long before = x.trace();
        for (int[] b : bad) {
            DUE.is("price of " + b[0] + " " + b[1], x.price(b[0], b[1]), PlateRoom.BAD);
        }
        DUE.is("trace() after BAD", x.trace(), before);
    }

    private static void promise14Worm() {
        PlateRoom x = new PlateRoom();
        x.leaf(0, 0, 10, 2);
        x.state(0, 1500, 1900);
        DUE.is("price(2, 0) without HOLES", x.price(2, 0), 7);
        x.hole(0, 0, 1);
        DUE.is("price(2, 0) by one", x.price(2, 0), 4);
        x.hole(0, 0, 1);
        DUE.is("price(2, 0) by two alike", x.price(2, 0), 4);
        x.hole(0, 0, 2);
        DUE.is("price(2, 0) by two", x.price(2, 0), 1);
        x.hole(0, 0, 3);
        DUE.is("price(2, 0) by three", x.price(2, 0), 0);
        DUE.is("price(1, 0) by three", x.price(1, 0), 7);
    }
}
