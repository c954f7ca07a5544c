import java.util.ArrayList;
import java.util.HashSet;
import java.util.List;
import java.util.Set;
import java.util.TreeSet;

/** A second telling of the document, by sets and by trying everything: slow, and plain to check. */
final class Model {
    private static final int NONE = -9;

    private record State(Set<Integer> lines, int bits, int from, int to) { }

    private record Mould(int from, int to) { }

    private record Copy(int year, Set<Integer> errors) { }

    private static final class Leaf {
        private final int[] looks = new int[12];
        private int worth;
        private int colour;
        private int mould = NONE;
        private int imprint = NONE;
        private final Set<Integer> holes = new TreeSet<>();
    }

    private final List<State> states = new ArrayList<>();
    private final List<Leaf> leaves = new ArrayList<>();
    private final List<Mould> moulds = new ArrayList<>();
    private final List<Copy> maps = new ArrayList<>();
    private final List<Set<Integer>> books = new ArrayList<>();
    private final int[] charges = {1, 2, 10, 2, 4};
    private long trace = 0;
    private int bestOrder;
    private int leastQuarrel;

    Model() {
        for (int i = 0; i < 4; i++) {
            books.add(new TreeSet<>());
        }
    }

    private static boolean in(int v, int least, int most) {
        return least <= v && v <= most;
    }

    private static boolean years(int from, int to) {
        return in(from, 1500, 1900) && in(to, 1500, 1900) && from <= to;
    }

    private static Set<Integer> bits(int number) {
        Set<Integer> found = new HashSet<>();
        for (int i = 0; i < 12; i++) {
            if ((number & 1 << i) != 0) {
                found.add(i);
            }
        }
        return found;
    }

    int state(int lines, int from, int to) {
        if (!in(lines, 0, 4095) || !years(from, to)) {
            return -1;
        }
        if (states.size() == 6) {
            return -3;
        }
        states.add(new State(bits(lines), lines, from, to));
        return states.size() - 1;
    }

    int about(int state, int what) {
        if (!in(state, 0, states.size() - 1) || !in(what, 0, 2)) {
            return -1;
        }
        State s = states.get(state);
        return new int[] {s.bits, s.from, s.to}[what];
    }

    int set(int what, int v) {
        if (!in(what, 0, 4) || !in(v, 0, new int[] {9, 9, 50, 9, 20}[what])) {
            return -1;
        }
        int was = charges[what];
        charges[what] = v;
        return was;
    }

    int quarrel(int order) {
        int howMany = states.size();
        if (howMany == 0 || order < 0) {
            return -1;
        }
        String digits = Integer.toString(order, 6);
        while (digits.length() < howMany) {
            digits = "0" + digits;
        }
        List<Integer> told = new ArrayList<>();
        for (char c : digits.toCharArray()) {
            told.add(c - '0');
        }
        for (int s = 0; s < howMany; s++) {
            if (told.size() != howMany || !told.contains(s)) {
                return -1;
            }
        }
        return quarrelOf(told);
    }

    private int quarrelOf(List<Integer> order) {
        int sum = 0;
        Set<Integer> haveGone = new HashSet<>();
        for (int i = 1; i < order.size(); i++) {
            Set<Integer> now = states.get(order.get(i - 1)).lines;
            Set<Integer> next = states.get(order.get(i)).lines;
            for (int line = 0; line < 12; line++) {
                if (!now.contains(line) && next.contains(line)) {
                    sum += haveGone.contains(line) ? charges[2] : charges[0];
                }
                if (now.contains(line) && !next.contains(line)) {
                    sum += charges[1];
                    haveGone.add(line);
                }
            }
        }
        return sum;
    }

    int best(int what) {
        if (!in(what, 0, 1)) {
            return -1;
        }
        if (states.isEmpty()) {
            return -2;
        }
        leastQuarrel = Integer.MAX_VALUE;
        tryAll(new ArrayList<>());
        return what == 0 ? bestOrder : leastQuarrel;
    }

    private void tryAll(List<Integer> begun) {
        if (begun.size() == states.size()) {
            int sum = quarrelOf(begun);
            if (sum < leastQuarrel) {
                leastQuarrel = sum;
                bestOrder = begun.stream().reduce(0, (number, digit) -> number * 6 + digit);
            }
            return;
        }
        for (int s = 0; s < states.size(); s++) {
            if (!begun.contains(s)) {
                begun.add(s);
                tryAll(begun);
                begun.remove(begun.size() - 1);
            }
        }
    }

    private boolean noLeaf(int leaf) {
        return !in(leaf, 0, leaves.size() - 1);
    }

    int leaf(int there, int gone, int worth, int colour) {
        if (!in(there, 0, 4095) || !in(gone, 0, 4095) || !in(worth, 0, 1000) || !in(colour, 0, 2)) {
            return -1;
        }
        Leaf one = new Leaf();
        for (int i = 0; i < 12; i++) {
            if (bits(there).contains(i) && bits(gone).contains(i)) {
                return -1;
            }
            one.looks[i] = bits(there).contains(i) ? 1 : bits(gone).contains(i) ? 2 : 0;
        }
        if (leaves.size() == 20) {
            return -3;
        }
        one.worth = worth;
        one.colour = colour;
        leaves.add(one);
        return leaves.size() - 1;
    }

    int see(int leaf, int line, int how) {
        if (noLeaf(leaf) || !in(line, 0, 11) || !in(how, 0, 2)) {
            return -1;
        }
        int was = leaves.get(leaf).looks[line];
        leaves.get(leaf).looks[line] = how;
        return was;
    }

    private List<Integer> candidatesOf(Leaf one) {
        List<Integer> found = new ArrayList<>();
        for (int s = 0; s < states.size(); s++) {
            boolean may = true;
            for (int i = 0; i < 12; i++) {
                boolean has = states.get(s).lines.contains(i);
                may &= !(one.looks[i] == 1 && !has) && !(one.looks[i] == 2 && has);
            }
            if (may) {
                found.add(s);
            }
        }
        return found;
    }

    int candidates(int leaf) {
        if (noLeaf(leaf)) {
            return -1;
        }
        int sum = 0;
        for (int s : candidatesOf(leaves.get(leaf))) {
            sum += 1 << s;
        }
        return sum;
    }

    int mould(int from, int to) {
        if (!years(from, to)) {
            return -1;
        }
        if (moulds.size() == 8) {
            return -3;
        }
        moulds.add(new Mould(from, to));
        return moulds.size() - 1;
    }

    int paper(int leaf, int mould) {
        if (noLeaf(leaf) || (mould != NONE && !in(mould, 0, moulds.size() - 1))) {
            return -2;
        }
        int was = leaves.get(leaf).mould;
        leaves.get(leaf).mould = mould;
        return was;
    }

    int imprint(int leaf, int year) {
        if (noLeaf(leaf) || (year != NONE && !in(year, 1500, 1900))) {
            return -2;
        }
        int was = leaves.get(leaf).imprint;
        leaves.get(leaf).imprint = year;
        return was;
    }

    int span(int leaf, int what) {
        if (noLeaf(leaf) || !in(what, 0, 1)) {
            return -1;
        }
        Leaf one = leaves.get(leaf);
        TreeSet<Integer> all = new TreeSet<>();
        for (int s : candidatesOf(one)) {
            for (int year = states.get(s).from; year <= states.get(s).to; year++) {
                boolean byPaper = one.mould == NONE
                        || in(year, moulds.get(one.mould).from, moulds.get(one.mould).to);
                if (byPaper && (one.imprint == NONE || year >= one.imprint)) {
                    all.add(year);
                }
            }
        }
        return all.isEmpty() ? NONE : what == 0 ? all.first() : all.last();
    }

    int price(int kind, int leaf) {
        if (noLeaf(leaf) || !in(kind, 0, 2)) {
            return -1;
        }
        Leaf one = leaves.get(leaf);
        trace += new int[] {1, 11, 111}[kind];
        int howMany = candidatesOf(one).size();
        int sum = howMany == 0 ? 0 : one.worth / howMany;
        if (kind >= 1 && one.colour == 1) {
            sum += (int) Math.floor(sum * 0.5);
        } else if (kind >= 1 && one.colour == 2) {
            sum -= (int) Math.ceil(sum * 0.25);
        }
        for (int i = 0; kind == 2 && i < 3 * one.holes.size(); i++) {
            sum = sum == 0 ? 0 : sum - 1;
        }
        return sum;
    }

    private boolean noMap(int map) {
        return !in(map, 0, maps.size() - 1);
    }

    int map(int year, int errors) {
        if (!in(year, 1500, 1900) || !in(errors, 0, 4095)) {
            return -1;
        }
        if (maps.size() == 8) {
            return -3;
        }
        maps.add(new Copy(year, bits(errors)));
        return maps.size() - 1;
    }

    int cost(int map, int from) {
        if (noMap(map)) {
            return -1;
        }
        Copy own = maps.get(map);
        if (from == NONE) {
            return own.errors.size() + charges[4];
        }
        if (noMap(from) || maps.get(from).year >= own.year) {
            return -1;
        }
        int sum = 0;
        for (int error : own.errors) {
            sum += maps.get(from).errors.contains(error) ? 0 : 1;
        }
        for (int error : maps.get(from).errors) {
            sum += own.errors.contains(error) ? 0 : charges[3];
        }
        return sum;
    }

    /** All that a map may come from with the least cost, NONE first. */
    private List<Integer> sources(int map) {
        int least = cost(map, NONE);
        for (int m = 0; m < maps.size(); m++) {
            least = cost(map, m) == -1 ? least : Math.min(least, cost(map, m));
        }
        List<Integer> found = new ArrayList<>();
        if (cost(map, NONE) == least) {
            found.add(NONE);
        }
        for (int m = 0; m < maps.size(); m++) {
            if (cost(map, m) == least) {
                found.add(m);
            }
        }
        return found;
    }

    int from(int map) {
        return noMap(map) ? -2 : sources(map).get(0);
    }

    int rivals(int map) {
        return noMap(map) ? -1 : sources(map).size() - 1;
    }

    /** From the given map down to those that come of it. */
    int life(int map, int error) {
        if (noMap(map) || !maps.get(map).errors.contains(error)) {
            return -1;
        }
        int sum = 1;
        for (int m = 0; m < maps.size(); m++) {
            if (from(m) == map && maps.get(m).errors.contains(error)) {
                sum += life(m, error);
            }
        }
        return sum;
    }

    int hole(int of, int which, int place) {
        boolean there = of == 0 ? !noLeaf(which) : of == 1 && in(which, 0, 3);
        if (!there || !in(place, 0, 99)) {
            return -1;
        }
        Set<Integer> holes = of == 0 ? leaves.get(which).holes : books.get(which);
        if (holes.size() == 6 && !holes.contains(place)) {
            return -3;
        }
        holes.add(place);
        return holes.size();
    }

    int fits(int leaf, int book, int k) {
        if (noLeaf(leaf) || !in(book, 0, 3) || !in(k, -20, 20)) {
            return -1;
        }
        int howMany = 0;
        for (int hole : leaves.get(leaf).holes) {
            Set<Integer> near = new HashSet<>(List.of(hole + k - 1, hole + k, hole + k + 1));
            near.retainAll(books.get(book));
            howMany += near.isEmpty() ? 0 : 1;
        }
        return howMany;
    }

    int shift(int leaf, int book, int what) {
        if (noLeaf(leaf) || !in(book, 0, 3) || !in(what, 0, 1)) {
            return -100;
        }
        int best = -20;
        for (int k = -20; k <= 20; k++) {
            int more = fits(leaf, book, k) - fits(leaf, book, best);
            if (more > 0 || (more == 0 && Math.abs(k) < Math.abs(best))) {
                best = k;
            }
        }
        return what == 0 ? best : fits(leaf, book, best);
    }

    int home(int leaf, int what) {
        if (noLeaf(leaf) || !in(what, 0, 1)) {
            return -1;
        }
        for (int howMany = 6; howMany >= 2; howMany--) {
            for (int book = 0; book < 4; book++) {
                if (shift(leaf, book, 1) == howMany) {
                    return what == 0 ? book : byChance(leaf, book);
                }
            }
        }
        return NONE;
    }

    private int byChance(int leaf, int book) {
        int others = 0;
        for (int i = 0; i < leaves.size(); i++) {
            others += shift(i, book, 1) >= shift(leaf, book, 1) ? 1 : 0;
        }
        return others - 1;
    }

    int count(int what) {
        int none = 0;
        int one = 0;
        for (Leaf leaf : leaves) {
            none += candidatesOf(leaf).isEmpty() ? 1 : 0;
            one += candidatesOf(leaf).size() == 1 ? 1 : 0;
        }
        int[] all = {states.size(), leaves.size(), moulds.size(), maps.size(), none, one};
        return in(what, 0, 5) ? all[what] : -1;
    }

    long trace() {
        return trace;
    }
}
