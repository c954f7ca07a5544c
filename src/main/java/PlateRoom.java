/**
 * A room for the study of a copper plate: its states and the leaves struck from it, the maps copied
 * from others, and the wormholes that lead cut leaves back to their books.
 *
 * <p>Every row is made by the constructor; no call makes an object.
 */
public final class PlateRoom {
    public static final int BAD = -1, STATE = -2, FULL = -3, NONE = -9;

    /** What some calls tell in place of BAD. */
    private static final int BAD_AS_TWO = -2;
    private static final int BAD_SHIFT = -100;

    private static final int LINES = 12;
    private static final int ALL_LINES = 4095;
    private static final int FIRST_YEAR = 1500;
    private static final int LAST_YEAR = 1900;
    private static final int MOST_WORTH = 1000;
    private static final int COLOURS = 3;

    private static final int MOST_STATES = 6;
    private static final int MOST_LEAVES = 20;
    private static final int MOST_MOULDS = 8;
    private static final int MOST_MAPS = 8;
    private static final int BOOKS = 4;

    private static final int NOT_SEEN = 0;
    private static final int SEEN_THERE = 1;
    private static final int SEEN_GONE = 2;

    private static final int OLD_COLOUR = 1;
    private static final int LATER_COLOUR = 2;

    private static final int PLAIN = 0;
    private static final int COLOURED = 1;
    private static final int WORM = 2;

    private static final int CUT = 0;
    private static final int RUB = 1;
    private static final int AGAIN = 2;
    private static final int LOSS = 3;
    private static final int ALONE = 4;

    private final Plate plate = new Plate();
    private final Copies copies = new Copies();
    private final Leaf[] leaves = new Leaf[MOST_LEAVES];
    private int leafCount = 0;
    private final Years[] moulds = new Years[MOST_MOULDS];
    private int mouldCount = 0;
    private final Holes[] books = new Holes[BOOKS];
    private long pricesAsked = 0;

    public PlateRoom() {
        for (int i = 0; i < MOST_LEAVES; i++) {
            leaves[i] = new Leaf();
        }
        for (int i = 0; i < MOST_MOULDS; i++) {
            moulds[i] = new Years();
        }
        for (int i = 0; i < BOOKS; i++) {
            books[i] = new Holes();
        }
    }

    // ---- states

    public int state(int lines, int from, int to) {
        if (!areLines(lines) || !areYears(from, to)) {
            return BAD;
        }
        return plate.addState(lines, from, to);
    }

    public int about(int state, int what) {
        if (!plate.hasState(state)) {
            return BAD;
        }
        switch (what) {
            case 0:
                return plate.lines[state];
            case 1:
                return plate.years[state].first;
            case 2:
                return plate.years[state].last;
            default:
                return BAD;
        }
    }

    public int set(int what, int v) {
        if (v < 0 || v > mostOfCharge(what)) {
            return BAD;
        }
        int was = chargeOf(what);
        putCharge(what, v);
        return was;
    }

    public int quarrel(int order) {
        return plate.quarrelOf(order);
    }

    public int best(int what) {
        if (!isFirstOrSecond(what)) {
            return BAD;
        }
        if (plate.stateCount == 0) {
            return STATE;
        }
        int order = plate.bestOrder();
        return what == 0 ? order : plate.quarrelOf(order);
    }

    // ---- leaves

    public int leaf(int there, int gone, int worth, int colour) {
        if (!areLines(there) || !areLines(gone) || (there & gone) != 0) {
            return BAD;
        }
        if (worth < 0 || worth > MOST_WORTH || colour < 0 || colour >= COLOURS) {
            return BAD;
        }
        if (leafCount >= MOST_LEAVES) {
            return FULL;
        }
        leaves[leafCount].strike(there, gone, worth, colour);
        return leafCount++;
    }

    public int see(int leaf, int line, int how) {
        if (!isLeaf(leaf) || !isLine(line) || how < NOT_SEEN || how > SEEN_GONE) {
            return BAD;
        }
        int was = leaves[leaf].lookOf(line);
        leaves[leaf].look(line, how);
        return was;
    }

    public int candidates(int leaf) {
        if (!isLeaf(leaf)) {
            return BAD;
        }
        return candidatesOf(leaves[leaf]);
    }

    public int mould(int from, int to) {
        if (!areYears(from, to)) {
            return BAD;
        }
        if (mouldCount >= MOST_MOULDS) {
            return FULL;
        }
        moulds[mouldCount].put(from, to);
        return mouldCount++;
    }

    public int paper(int leaf, int mould) {
        if (!isLeaf(leaf) || (mould != NONE && !isMould(mould))) {
            return BAD_AS_TWO;
        }
        int was = leaves[leaf].mould;
        leaves[leaf].mould = mould;
        return was;
    }

    public int imprint(int leaf, int year) {
        if (!isLeaf(leaf) || (year != NONE && !isYear(year))) {
            return BAD_AS_TWO;
        }
        int was = leaves[leaf].imprint;
        leaves[leaf].imprint = year;
        return was;
    }

    public int span(int leaf, int what) {
        if (!isLeaf(leaf) || !isFirstOrSecond(what)) {
            return BAD;
        }
        Leaf one = leaves[leaf];
        int earliest = earliestByPaper(one);
        int latest = latestByPaper(one);
        int candidates = candidatesOf(one);
        int first = NONE;
        int last = NONE;
        for (int s = 0; s < plate.stateCount; s++) {
            int from = Math.max(earliest, plate.years[s].first);
            int to = Math.min(latest, plate.years[s].last);
            if (has(candidates, s) && from <= to) {
                first = first == NONE ? from : Math.min(first, from);
                last = last == NONE ? to : Math.max(last, to);
            }
        }
        return what == 0 ? first : last;
    }

    public int price(int kind, int leaf) {
        if (!isLeaf(leaf)) {
            return BAD;
        }
        switch (kind) {
            case PLAIN:
                return plainPrice(leaves[leaf]);
            case COLOURED:
                return colouredPrice(leaves[leaf]);
            case WORM:
                return wormPrice(leaves[leaf]);
            default:
                return BAD;
        }
    }

    // ---- maps

    public int map(int year, int errors) {
        if (!isYear(year) || !areLines(errors)) {
            return BAD;
        }
        return copies.addMap(year, errors);
    }

    public int cost(int map, int from) {
        if (!copies.mayComeFrom(map, from)) {
            return BAD;
        }
        return copies.costOf(map, from);
    }

    public int from(int map) {
        if (!copies.hasMap(map)) {
            return BAD_AS_TWO;
        }
        return copies.cheapest(map);
    }

    public int rivals(int map) {
        if (!copies.hasMap(map)) {
            return BAD;
        }
        return copies.rivalCount(map);
    }

    public int life(int map, int error) {
        if (!isLine(error) || !copies.hasMap(map) || !has(copies.errors[map], error)) {
            return BAD;
        }
        return copies.lifeOf(map, error);
    }

    // ---- holes

    public int hole(int of, int which, int place) {
        if (!Holes.isPlace(place)) {
            return BAD;
        }
        if (of == 0 && isLeaf(which)) {
            return leaves[which].holes.bore(place);
        }
        if (of == 1 && isBook(which)) {
            return books[which].bore(place);
        }
        return BAD;
    }

    public int fits(int leaf, int book, int k) {
        if (!isLeaf(leaf) || !isBook(book) || !Holes.isShift(k)) {
            return BAD;
        }
        return leaves[leaf].holes.fitting(books[book], k);
    }

    public int shift(int leaf, int book, int what) {
        if (!isLeaf(leaf) || !isBook(book) || !isFirstOrSecond(what)) {
            return BAD_SHIFT;
        }
        Holes holes = leaves[leaf].holes;
        int k = holes.bestShift(books[book]);
        return what == 0 ? k : holes.fitting(books[book], k);
    }

    public int home(int leaf, int what) {
        if (!isLeaf(leaf) || !isFirstOrSecond(what)) {
            return BAD;
        }
        int book = homeOf(leaf);
        if (what == 0 || !isBook(book)) {
            return book;
        }
        return othersByChance(leaf, book);
    }

    public int count(int what) {
        switch (what) {
            case 0:
                return plate.stateCount;
            case 1:
                return leafCount;
            case 2:
                return mouldCount;
            case 3:
                return copies.mapCount;
            case 4:
                return leavesWithCandidates(0);
            case 5:
                return leavesWithCandidates(1);
            default:
                return BAD;
        }
    }

    public long trace() {
        return pricesAsked;
    }

    // ---- what numbers are as told

    private static boolean has(int bits, int bit) {
        return (bits >> bit & 1) == 1;
    }

    /** LINES and ERRORS alike are bits 0 .. 11. */
    private static boolean areLines(int bits) {
        return bits >= 0 && bits <= ALL_LINES;
    }

    private static boolean isLine(int line) {
        return line >= 0 && line < LINES;
    }

    private static boolean isYear(int year) {
        return year >= FIRST_YEAR && year <= LAST_YEAR;
    }

    private static boolean areYears(int from, int to) {
        return isYear(from) && isYear(to) && from <= to;
    }

    /** A call that tells one of two things numbers them 0 and 1. */
    private static boolean isFirstOrSecond(int what) {
        return what == 0 || what == 1;
    }

    private static boolean isBook(int book) {
        return book >= 0 && book < BOOKS;
    }

    private boolean isLeaf(int leaf) {
        return leaf >= 0 && leaf < leafCount;
    }

    private boolean isMould(int mould) {
        return mould >= 0 && mould < mouldCount;
    }

    // ---- the charges, by their numbers

    /** The greatest that a charge may be; BAD, less than any may be: there is no such charge. */
    private static int mostOfCharge(int what) {
        switch (what) {
            case CUT:
            case RUB:
            case LOSS:
                return 9;
            case AGAIN:
                return 50;
            case ALONE:
                return 20;
            default:
                return BAD;
        }
    }

    private int chargeOf(int what) {
        switch (what) {
            case CUT:
                return plate.cut;
            case RUB:
                return plate.rub;
            case AGAIN:
                return plate.again;
            case LOSS:
                return copies.loss;
            case ALONE:
                return copies.alone;
            default:
                return BAD;
        }
    }

    private void putCharge(int what, int v) {
        switch (what) {
            case CUT:
                plate.cut = v;
                break;
            case RUB:
                plate.rub = v;
                break;
            case AGAIN:
                plate.again = v;
                break;
            case LOSS:
                copies.loss = v;
                break;
            case ALONE:
                copies.alone = v;
                break;
            default:
                break;
        }
    }

    // ---- what leaves ask of the plate and the paper

    private int candidatesOf(Leaf one) {
        return plate.statesWith(one.there, one.gone);
    }

    private int leavesWithCandidates(int howMany) {
        int leavesFound = 0;
        for (int i = 0; i < leafCount; i++) {
            if (Integer.bitCount(candidatesOf(leaves[i])) == howMany) {
                leavesFound++;
            }
        }
        return leavesFound;
    }

    private int earliestByPaper(Leaf one) {
        int earliest = isMould(one.mould) ? moulds[one.mould].first : FIRST_YEAR;
        return one.imprint == NONE ? earliest : Math.max(earliest, one.imprint);
    }

    private int latestByPaper(Leaf one) {
        return isMould(one.mould) ? moulds[one.mould].last : LAST_YEAR;
    }

    // ---- prices: each kind asks the one that stands over it

    private int plainPrice(Leaf one) {
        pricesAsked += 1;
        int howMany = Integer.bitCount(candidatesOf(one));
        return howMany == 0 ? 0 : one.worth / howMany;
    }

    private int colouredPrice(Leaf one) {
        pricesAsked += 10;
        int up = plainPrice(one);
        if (one.colour == OLD_COLOUR) {
            return up + up / 2;
        }
        if (one.colour == LATER_COLOUR) {
            return up - (up + 3) / 4;
        }
        return up;
    }

    private int wormPrice(Leaf one) {
        pricesAsked += 100;
        return Math.max(0, colouredPrice(one) - 3 * one.holes.placeCount);
    }

    // ---- the way home

    private int homeOf(int leaf) {
        int found = NONE;
        int most = Holes.LEAST_FOR_A_HOME - 1;
        for (int b = 0; b < BOOKS; b++) {
            int howMany = leaves[leaf].holes.mostFitting(books[b]);
            if (howMany > most) {
                most = howMany;
                found = b;
            }
        }
        return found;
    }

    private int othersByChance(int leaf, int book) {
        int own = leaves[leaf].holes.mostFitting(books[book]);
        int others = 0;
        for (int i = 0; i < leafCount; i++) {
            if (i != leaf && leaves[i].holes.mostFitting(books[book]) >= own) {
                others++;
            }
        }
        return others;
    }

    /** YEARS from the first to the last. */
    private static final class Years {
        private int first = FIRST_YEAR;
        private int last = LAST_YEAR;

        private void put(int from, int to) {
            first = from;
            last = to;
        }
    }

    /** The STATES of the plate, and in which order they came. */
    private static final class Plate {
        private static final int SETS_OF_STATES = 64;

        private int cut = 1;
        private int rub = 2;
        private int again = 10;
        private final int[] lines = new int[MOST_STATES];
        private final Years[] years = new Years[MOST_STATES];
        private int stateCount = 0;
        /** The STATES of the order that was read last, the first one at 0. */
        private final int[] read = new int[MOST_STATES];
        /** The least QUARREL still to come, by the STATES that have been and the last of them. */
        private final int[][] toCome = new int[SETS_OF_STATES][MOST_STATES];

        private Plate() {
            for (int i = 0; i < MOST_STATES; i++) {
                years[i] = new Years();
            }
        }

        private boolean hasState(int state) {
            return state >= 0 && state < stateCount;
        }

        private int addState(int itsLines, int from, int to) {
            if (stateCount >= MOST_STATES) {
                return FULL;
            }
            lines[stateCount] = itsLines;
            years[stateCount].put(from, to);
            return stateCount++;
        }

        private int statesWith(int there, int gone) {
            int found = 0;
            for (int s = 0; s < stateCount; s++) {
                if ((lines[s] & there) == there && (lines[s] & gone) == 0) {
                    found |= 1 << s;
                }
            }
            return found;
        }

        private int quarrelOf(int order) {
            if (!readOrder(order)) {
                return BAD;
            }
            int sum = 0;
            int been = 0;
            for (int i = 0; i + 1 < stateCount; i++) {
                been |= lines[read[i]];
                sum += stepQuarrel(been, lines[read[i]], lines[read[i + 1]]);
            }
            return sum;
        }

        /** Reads an order's digits into the row; false if they are not all STATES, each once. */
        private boolean readOrder(int order) {
            if (order < 0 || stateCount == 0) {
                return false;
            }
            int rest = order;
            int used = 0;
            for (int i = stateCount - 1; i >= 0; i--) {
                int digit = rest % MOST_STATES;
                rest /= MOST_STATES;
                if (!hasState(digit) || has(used, digit)) {
                    return false;
                }
                used |= 1 << digit;
                read[i] = digit;
            }
            return rest == 0;
        }

        /**
         * QUARREL of one STATE's lines and the next one's. A line that comes is not in this STATE,
         * so if it has been in any until now, it has gone: been tells the rest of the order.
         */
        private int stepQuarrel(int been, int now, int next) {
            int come = next & ~now;
            int gone = now & ~next;
            return Integer.bitCount(come & ~been) * cut
                    + Integer.bitCount(come & been) * again
                    + Integer.bitCount(gone) * rub;
        }

        /** The first of the orders with the least QUARREL; 0 without STATES. */
        private int bestOrder() {
            weighWhatIsToCome();
            int order = 0;
            int used = 0;
            int last = NONE;
            for (int i = 0; i < stateCount; i++) {
                last = bestNext(used, last);
                if (!hasState(last)) {
                    return 0;
                }
                used |= 1 << last;
                order = order * MOST_STATES + last;
            }
            return order;
        }

        /** From the whole set down: what may come behind a set is weighed when it is its turn. */
        private void weighWhatIsToCome() {
            for (int used = (1 << stateCount) - 1; used > 0; used--) {
                for (int last = 0; last < stateCount; last++) {
                    int next = bestNext(used, last);
                    toCome[used][last] = hasState(next) ? quarrelBy(used, last, next) : 0;
                }
            }
        }

        /** The least of the STATES not used that go on with the least QUARREL; NONE: all are used. */
        private int bestNext(int used, int last) {
            int found = NONE;
            int least = 0;
            for (int s = 0; s < stateCount; s++) {
                if (!has(used, s)) {
                    int sum = quarrelBy(used, last, s);
                    if (found == NONE || sum < least) {
                        found = s;
                        least = sum;
                    }
                }
            }
            return found;
        }

        /** QUARREL from the last one used, by a next one, to the end; the very first costs nothing. */
        private int quarrelBy(int used, int last, int next) {
            int step = hasState(last) ? stepQuarrel(linesOf(used), lines[last], lines[next]) : 0;
            return step + toCome[used | 1 << next][next];
        }

        private int linesOf(int states) {
            int all = 0;
            for (int s = 0; s < stateCount; s++) {
                if (has(states, s)) {
                    all |= lines[s];
                }
            }
            return all;
        }
    }

    /** One LEAF: what is seen on it, what it is worth, its paper. */
    private static final class Leaf {
        private int there = 0;
        private int gone = 0;
        private int worth = 0;
        private int colour = 0;
        private int mould = NONE;
        private int imprint = NONE;
        private final Holes holes = new Holes();

        private void strike(int linesThere, int linesGone, int itsWorth, int itsColour) {
            there = linesThere;
            gone = linesGone;
            worth = itsWorth;
            colour = itsColour;
        }

        private int lookOf(int line) {
            if (has(there, line)) {
                return SEEN_THERE;
            }
            return has(gone, line) ? SEEN_GONE : NOT_SEEN;
        }

        private void look(int line, int how) {
            int bit = 1 << line;
            there = how == SEEN_THERE ? there | bit : there & ~bit;
            gone = how == SEEN_GONE ? gone | bit : gone & ~bit;
        }
    }

    /** The MAPS, and from which others they were copied. */
    private static final class Copies {
        private int loss = 2;
        private int alone = 4;
        private final int[] years = new int[MOST_MAPS];
        private final int[] errors = new int[MOST_MAPS];
        private int mapCount = 0;

        private boolean hasMap(int map) {
            return map >= 0 && map < mapCount;
        }

        private int addMap(int year, int itsErrors) {
            if (mapCount >= MOST_MAPS) {
                return FULL;
            }
            years[mapCount] = year;
            errors[mapCount] = itsErrors;
            return mapCount++;
        }

        private boolean mayComeFrom(int map, int source) {
            if (!hasMap(map)) {
                return false;
            }
            return source == NONE || (hasMap(source) && years[source] < years[map]);
        }

        private int costOf(int map, int source) {
            if (!hasMap(source)) {
                return Integer.bitCount(errors[map]) + alone;
            }
            int own = Integer.bitCount(errors[map] & ~errors[source]);
            int lost = Integer.bitCount(errors[source] & ~errors[map]);
            return own + lost * loss;
        }

        private int cheapest(int map) {
            int found = NONE;
            int least = costOf(map, NONE);
            for (int m = 0; m < mapCount; m++) {
                if (mayComeFrom(map, m) && costOf(map, m) < least) {
                    found = m;
                    least = costOf(map, m);
                }
            }
            return found;
        }

        /** NONE is ahead of all, so where it costs as little it is no other, but the source itself. */
        private int rivalCount(int map) {
            int source = cheapest(map);
            int least = costOf(map, source);
            int others = 0;
            for (int m = 0; m < mapCount; m++) {
                if (m != source && mayComeFrom(map, m) && costOf(map, m) == least) {
                    others++;
                }
            }
            return others;
        }

        private int lifeOf(int map, int error) {
            int heirs = 0;
            for (int m = 0; m < mapCount; m++) {
                if (hasItFrom(m, map, error)) {
                    heirs++;
                }
            }
            return heirs;
        }

        /** No way is longer than there are MAPS: each step goes to a lesser YEAR. */
        private boolean hasItFrom(int heir, int map, int error) {
            int on = heir;
            for (int steps = 0; steps < MOST_MAPS; steps++) {
                if (!hasMap(on) || !has(errors[on], error)) {
                    return false;
                }
                if (on == map) {
                    return true;
                }
                on = cheapest(on);
            }
            return false;
        }
    }

    /** The HOLES of one LEAF or of one BOOK. */
    private static final class Holes {
        private static final int LEAST_FOR_A_HOME = 2;
        private static final int MOST_HOLES = 6;
        private static final int PLACES = 100;
        private static final int FARTHEST = 20;
        private static final int NEAR = 1;

        private final int[] places = new int[MOST_HOLES];
        private int placeCount = 0;

        private static boolean isPlace(int place) {
            return place >= 0 && place < PLACES;
        }

        private static boolean isShift(int k) {
            return k >= -FARTHEST && k <= FARTHEST;
        }

        private int bore(int place) {
            if (isWithin(place, 0)) {
                return placeCount;
            }
            if (placeCount >= MOST_HOLES) {
                return FULL;
            }
            places[placeCount] = place;
            placeCount++;
            return placeCount;
        }

        private boolean isWithin(int place, int far) {
            for (int i = 0; i < placeCount; i++) {
                if (Math.abs(places[i] - place) <= far) {
                    return true;
                }
            }
            return false;
        }

        private int fitting(Holes book, int k) {
            int howMany = 0;
            for (int i = 0; i < placeCount; i++) {
                if (book.isWithin(places[i] + k, NEAR)) {
                    howMany++;
                }
            }
            return howMany;
        }

        private int mostFitting(Holes book) {
            return fitting(book, bestShift(book));
        }

        /** Looked at upwards: of two that are as near to 0, the lesser one comes first and stays. */
        private int bestShift(Holes book) {
            int found = -FARTHEST;
            int most = fitting(book, found);
            for (int k = -FARTHEST + 1; k <= FARTHEST; k++) {
                int howMany = fitting(book, k);
                boolean asManyButNearer = howMany == most && Math.abs(k) < Math.abs(found);
                if (howMany > most || asManyButNearer) {
                    most = howMany;
                    found = k;
                }
            }
            return found;
        }
    }
}
