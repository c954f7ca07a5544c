import java.util.ArrayList;
import java.util.List;

/** All that can be seen of a room: the answers to a long row of calls, on rooms made by the same calls. */
final class Everything {
    /** No room is asked more often than is promised: those calls that made it, and so many. */
    private static final int CALLS_A_ROOM = 400;
    private static final List<Call> ROW = row();

    private Everything() {
    }

    static String name(int i) {
        return ROW.get(i).toString();
    }

    static long[] behind(List<Call> calls) {
        if (calls.size() + CALLS_A_ROOM > Told.CALLS_PROMISED) {
            throw new IllegalArgumentException("too many calls for one room: " + calls.size());
        }
        long[] answers = new long[ROW.size()];
        PlateRoom room = null;
        for (int i = 0; i < answers.length; i++) {
            if (i % CALLS_A_ROOM == 0) {
                room = new PlateRoom();
                for (Call call : calls) {
                    call.on(room);
                }
            }
            answers[i] = ROW.get(i).on(room);
        }
        return answers;
    }

    private static List<Call> row() {
        List<Call> row = new ArrayList<>();
        row.add(new Call("trace"));
        each(row, "count", 6);
        states(row);
        maps(row);
        leaves(row);
        added(row);
        holes(row);
        return row;
    }

    private static void each(List<Call> row, String name, int howMany) {
        for (int i = 0; i < howMany; i++) {
            row.add(new Call(name, i));
        }
    }

    private static void each(List<Call> row, String name, int first, int howMany) {
        for (int i = 0; i < howMany; i++) {
            row.add(new Call(name, first, i));
        }
    }

    private static void states(List<Call> row) {
        for (int s = 0; s < 6; s++) {
            each(row, "about", s, 3);
        }
        each(row, "best", 2);
        for (int order : new int[] {0, 1, 6, 8, 78, 51, 310, 1865, 44790}) {
            row.add(new Call("quarrel", order));
        }
    }

    private static void maps(List<Call> row) {
        each(row, "from", 8);
        each(row, "rivals", 8);
        for (int m = 0; m < 8; m++) {
            row.add(new Call("cost", m, PlateRoom.NONE));
            each(row, "cost", m, 8);
            each(row, "life", m, 12);
        }
        for (int what = 0; what < 5; what++) {
            row.add(new Call("set", what, 7));
        }
    }

    private static void leaves(List<Call> row) {
        each(row, "candidates", 20);
        for (int leaf = 0; leaf < 20; leaf++) {
            each(row, "span", leaf, 2);
            each(row, "home", leaf, 2);
            for (int book = 0; book < 4; book++) {
                row.add(new Call("shift", leaf, book, 0));
                row.add(new Call("shift", leaf, book, 1));
            }
            for (int kind = 0; kind < 3; kind++) {
                row.add(new Call("price", kind, leaf));
            }
            row.add(new Call("paper", leaf, PlateRoom.NONE));
            row.add(new Call("imprint", leaf, PlateRoom.NONE));
            for (int line = 0; line < 12; line++) {
                row.add(new Call("see", leaf, line, 0));
            }
        }
    }

    /** The numbers that come next, and the YEARS of each MOULD. */
    private static void added(List<Call> row) {
        row.add(new Call("state", 1, 1500, 1900));
        row.add(new Call("map", 1900, 0));
        row.add(new Call("leaf", 0, 0, 1000, 0));
        for (int mould = 0; mould < 8; mould++) {
            row.add(new Call("paper", 0, mould));
            each(row, "span", 0, 2);
        }
        row.add(new Call("mould", 1500, 1900));
    }

    /** A place that was not there makes one more, or is FULL; one that was there does neither. */
    private static void holes(List<Call> row) {
        for (int which : new int[] {0, 1, 19}) {
            boreAll(row, 0, which);
        }
        for (int book = 0; book < 4; book++) {
            boreAll(row, 1, book);
        }
    }

    private static void boreAll(List<Call> row, int of, int which) {
        for (int place = 0; place < 100; place++) {
            row.add(new Call("hole", of, which, place));
        }
    }
}
