/** Promises 15 to 19: map, cost, from, rivals, life. */
public final class MapTest {
    private static final Due DUE = new Due();
    private static final int LEAST = Integer.MIN_VALUE;
    private static final int MOST = Integer.MAX_VALUE;

    public static void main(String[] args) {
        promise15Map();
        promise16Cost();
        promise17From();
        promise17LesserYearOnly();
        promise18Rivals();
        promise19Life();
        promise19OnTheWay();
        promise19LongestWay();
        DUE.end();
    }

    private static void refuseMaps(PlateRoom x) {
        int[][] bad = {{1499, 0}, {1901, 0}, {1600, -1}, {1600, 4096}, {LEAST, 0}, {1600, MOST}};
        for (int[] b : bad) {
            DUE.is("map of " + b[0] + " " + b[1], x.map(b[0], b[1]), PlateRoom.BAD);
        }
    }

    private static void promise15Map() {
        PlateRoom x = new PlateRoom();
        refuseMaps(x);
        DUE.is("count(3) after BAD", x.count(3), 0);
        DUE.is("map(1500, 0)", x.map(1500, 0), 0);
        DUE.is("map(1900, 4095)", x.map(1900, 4095), 1);
        for (int i = 2; i < 8; i++) {
            DUE.is("map " + i, x.map(1600, 1), i);
        }
        DUE.is("map 8", x.map(1600, 1), PlateRoom.FULL);
        refuseMaps(x);
        DUE.is("count(3)", x.count(3), 8);
    }

    private static void promise16Cost() {
        PlateRoom x = new PlateRoom();
        x.map(1600, 7);
        x.map(1601, 28);
        x.map(1601, 0);
        DUE.is("cost(0, -9)", x.cost(0, -9), 7);
        DUE.is("cost(1, 0): two more, two lost", x.cost(1, 0), 6);
        DUE.is("cost(2, 0): three lost", x.cost(2, 0), 6);
        DUE.is("cost(2, -9)", x.cost(2, -9), 4);
        int[][] bad = {
            {0, 1}, {1, 2}, {2, 1}, {1, 1}, {1, 3}, {1, -1}, {1, 8}, {3, 0}, {-1, 0}, {3, -9}, {-9, -9},
            {LEAST, 0}, {1, MOST},
        };
        for (int[] b : bad) {
            DUE.is("cost of " + b[0] + " " + b[1], x.cost(b[0], b[1]), PlateRoom.BAD);
        }
        x.set(3, 9);
        x.set(4, 20);
        DUE.is("cost(1, 0) by LOSS 9", x.cost(1, 0), 20);
        DUE.is("cost(1, -9) by ALONE 20", x.cost(1, -9), 23);
        x.set(3, 0);
        x.set(4, 0);
        DUE.is("cost(1, 0) by LOSS 0", x.cost(1, 0), 2);
        DUE.is("cost(1, -9) by ALONE 0", x.cost(1, -9), 3);
    }

    private static void promise17From() {
        PlateRoom x = new PlateRoom();
        x.map(1600, 1);
        x.map(1600, 1);
        x.map(1650, 3);
        DUE.is("from(0)", x.from(0), PlateRoom.NONE);
        DUE.is("from(2): the least number of two", x.from(2), 0);
        x.map(1640, 3);
        DUE.is("from(2): a later number costs less", x.from(2), 3);
        x.map(1660, 56);
        DUE.is("from(4), 5 from 0, 7 from none", x.from(4), 0);
        x.set(4, 2);
        DUE.is("from(4), 5 from 0, 5 from none", x.from(4), PlateRoom.NONE);
        DUE.is("from(3), 1 from 0, 4 from none", x.from(3), 0);
        x.map(1550, 0);
        DUE.is("from(0), 1 from 5, 3 from none", x.from(0), 5);
        x.set(4, 0);
        DUE.is("from(0), NONE ahead of all", x.from(0), PlateRoom.NONE);
        for (int map : new int[] {6, -1, 8, -9, LEAST, MOST}) {
            DUE.is("from(" + map + ")", x.from(map), -2);
        }
    }

    private static void promise17LesserYearOnly() {
        PlateRoom x = new PlateRoom();
        x.map(1600, 7);
        x.map(1600, 7);
        x.map(1601, 7);
        DUE.is("from(0), alike in a YEAR alike", x.from(0), PlateRoom.NONE);
        DUE.is("from(1), alike in a YEAR alike", x.from(1), PlateRoom.NONE);
        DUE.is("from(2)", x.from(2), 0);
    }

    private static void promise18Rivals() {
        PlateRoom x = new PlateRoom();
        x.map(1600, 1);
        DUE.is("rivals(0) alone", x.rivals(0), 0);
        x.map(1600, 1);
        x.map(1600, 9);
        x.map(1650, 1);
        DUE.is("rivals(3): one costs as little", x.rivals(3), 1);
        x.map(1640, 1);
        DUE.is("rivals(3): two cost as little", x.rivals(3), 2);
        DUE.is("rivals(4)", x.rivals(4), 1);
        x.map(1700, 2048);
        DUE.is("from(5), 5 from none, 3 from 0", x.from(5), 0);
        x.set(4, 2);
        DUE.is("from(5), 3 from none", x.from(5), PlateRoom.NONE);
        DUE.is("rivals(5): 0, 1, 3, 4", x.rivals(5), 4);
        x.set(3, 3);
        DUE.is("rivals(5): all others cost more", x.rivals(5), 0);
        x.map(1500, 0);
        x.set(4, 0);
        DUE.is("from(5), NONE and 6 alike", x.from(5), PlateRoom.NONE);
        DUE.is("rivals(5), NONE and 6 alike", x.rivals(5), 1);
        for (int map : new int[] {7, -1, -9, LEAST, MOST}) {
            DUE.is("rivals(" + map + ")", x.rivals(map), PlateRoom.BAD);
        }
    }

    private static void promise19Life() {
        PlateRoom x = new PlateRoom();
        x.map(1600, 7);
        x.map(1610, 15);
        x.map(1620, 31);
        x.map(1620, 2048);
        DUE.is("life(0, 0)", x.life(0, 0), 3);
        DUE.is("life(1, 0)", x.life(1, 0), 2);
        DUE.is("life(2, 0)", x.life(2, 0), 1);
        DUE.is("life(1, 3)", x.life(1, 3), 2);
        DUE.is("life(3, 11)", x.life(3, 11), 1);
        int[][] bad = {{0, 3}, {0, 12}, {0, -1}, {4, 0}, {-1, 0}, {0, 32}, {LEAST, 0}, {0, MOST}, {-9, 0}};
        for (int[] b : bad) {
            DUE.is("life of " + b[0] + " " + b[1], x.life(b[0], b[1]), PlateRoom.BAD);
        }
    }

    /** The middle one lost ERROR 0, and the last one has it again: it does not come by the middle one. */
    private static void promise19OnTheWay() {
        PlateRoom x = new PlateRoom();
        x.map(1600, 255);
        x.map(1610, 254);
        x.map(1620, 255 + 256);
        x.map(1620, 254 + 1536 + 1);
        x.map(1615, 254 + 1536);
        DUE.is("from(1)", x.from(1), 0);
        DUE.is("from(4)", x.from(4), 1);
        DUE.is("from(3)", x.from(3), 4);
        DUE.is("from(2)", x.from(2), 0);
        DUE.is("life(0, 0)", x.life(0, 0), 2);
        DUE.is("life(3, 0)", x.life(3, 0), 1);
        DUE.is("life(0, 1)", x.life(0, 1), 5);
        DUE.is("life(1, 1)", x.life(1, 1), 3);
    }

    private static void promise19LongestWay() {
        PlateRoom x = new PlateRoom();
        for (int i = 7; i >= 0; i--) {
            x.map(1600 + i, (2 << i) - 1);
        }
        DUE.is("from(0)", x.from(0), 1);
        DUE.is("life(7, 0) of eight, each from the next", x.life(7, 0), 8);
        DUE.is("life(4, 3)", x.life(4, 3), 5);
    }
}
