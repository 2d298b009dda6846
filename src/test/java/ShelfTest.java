/** Promises 31 to 40: bodies, acts and their trace, shelves and rows, counts. */
public final class ShelfTest {
    private static final Due due = new Due();
    private static final long NONE = Long.MIN_VALUE;

    private static void promise31Body() {
        ShieldLine x = new ShieldLine();
        due.is("31 kind -1", x.body(-1), -1);
        due.is("31 kind 8", x.body(8), -1);
        for (int i = 0; i < 50; i++) due.is("31 body", x.body(i % 8), i);
        due.is("31 full", x.body(0), -3);
        due.is("31 BAD first", x.body(8), -1);
        due.is("31 fifty", x.count(4), 50);
    }

    private static void act(ShieldLine x, int body, int act, int arg, int want, int... ran) {
        String call = "32 act(" + body + ", " + act + ", " + arg + ")";
        due.is(call, x.act(body, act, arg), want);
        due.is(call + " ran", x.count(5), ran.length);
        for (int i = 0; i < ran.length; i++) due.is("33 " + call + " trace " + i, x.trace(i), ran[i]);
        due.is("33 behind the last", x.trace(ran.length), -1);
        due.is("33 trace(-1)", x.trace(-1), -1);
    }

    /** The body of kind k has number k; x is 10. */
    private static void promise32Act() {
        ShieldLine x = new ShieldLine();
        for (int kind = 0; kind < 8; kind++) x.body(kind);
        act(x, 0, 0, 10, 10, 1);
        act(x, 0, 1, 10, 20, 10, 1);
        act(x, 0, 2, 10, 10, 11);
        act(x, 0, 3, 10, 19, 2, 10, 1, 11);
        act(x, 1, 0, 10, 14, 20, 1);
        act(x, 1, 1, 10, 28, 10, 20, 1);
        act(x, 1, 2, 10, 11, 11);
        act(x, 1, 3, 10, 28, 2, 10, 20, 1, 11);
        act(x, 2, 0, 10, 12, 1);
        act(x, 2, 1, 10, -24, 30, 10, 1);
        act(x, 2, 2, 10, 8, 11);
        act(x, 2, 3, 10, -27, 2, 30, 10, 1, 11);
        act(x, 3, 0, 10, 13, 1);
        act(x, 3, 1, 10, -28, 41, 30, 10, 1);
        act(x, 3, 2, 10, 27, 40, 11);
        act(x, 3, 3, 10, -28 - 6, 2, 41, 30, 10, 1, 40, 11);
        act(x, 4, 0, 10, 17, 20, 1);
        act(x, 4, 1, 10, 34, 10, 20, 1);
        act(x, 4, 2, 10, 14 - 9, 50, 11, 20, 1);
        act(x, 4, 3, 10, 34 - (5 - 9), 2, 10, 20, 1, 50, 11, 20, 1);
        act(x, 5, 1, 10, -32, 41, 30, 10, 1);
        act(x, 5, 2, 10, 45, 40, 11);
        act(x, 5, 3, 10, (-32 - 12) ^ 5, 60, 2, 41, 30, 10, 1, 40, 11);
        act(x, 6, 0, 10, 32, 70, 1);
        act(x, 6, 1, 10, 64, 10, 70, 1);
        act(x, 6, 3, 10, 64 - 7, 2, 10, 70, 1, 11);
        act(x, 7, 0, 10, 20, 20, 1);
        act(x, 7, 1, 10, 40 + (5 - 12), 80, 10, 20, 1, 50, 11, 20, 1);
        act(x, 7, 2, 10, 13 - 12, 50, 11, 20, 1);
        act(x, 7, 3, 10, 33 - (6 - 12) - 1, 81, 2, 80, 10, 20, 1, 50, 11, 20, 1, 50, 11, 20, 1);
        act(x, 8, 0, 10, 0);
        act(x, 7, 0, 10, 20, 20, 1);
        act(x, -1, 0, 10, 0);
        act(x, 7, 4, 10, 0);
        act(x, 7, -1, 10, 0);
        act(x, 1, 0, Integer.MAX_VALUE, Integer.MIN_VALUE + 3, 20, 1);
        act(x, 0, 1, 1 << 30, Integer.MIN_VALUE, 10, 1);
    }

    private static void promise34Keep() {
        ShieldLine x = new ShieldLine();
        due.is("34 no such body", x.keep(0, 0), -1);
        x.body(2);
        due.is("34 shelf -1", x.keep(-1, 0), -1);
        due.is("34 shelf 6", x.keep(6, 0), -1);
        due.is("34 body -2", x.keep(0, -2), -1);
        due.is("34 a shield", x.keep(5, 0), 1);
        due.is("34 it is there", x.taken(5, 0), 2);
        due.is("34 BAD changes nothing", x.keep(5, 1), -1);
        due.is("34 it is there still", x.taken(5, 2), 2);
        due.is("34 nothing", x.keep(5, -1), 1);
        due.is("34 nothing there", x.taken(5, 0), -11);
        x.row(5, 0, 2);
        due.is("34 a shield for a row", x.keep(5, 0), 1);
        due.is("34 no row any more", x.put(5, 0, 1), -12);
        due.is("34 nothing for it", x.keep(5, -1), 1);
        due.is("34 nothing there", x.put(5, 0, 1), -11);
    }

    private static void promise35Row() {
        ShieldLine x = new ShieldLine();
        due.is("35 shelf -1", x.row(-1, 0, 1), -1);
        due.is("35 shelf 6", x.row(6, 0, 1), -1);
        due.is("35 sort -1", x.row(0, -1, 1), -1);
        due.is("35 sort 5", x.row(0, 5, 1), -1);
        due.is("35 61", x.row(0, 0, 61), -1);
        due.is("35 -1", x.row(0, 0, -1), -14);
        due.is("35 the least int", x.row(0, 0, Integer.MIN_VALUE), -14);
        due.is("35 BAD first", x.row(0, 5, -1), -1);
        due.is("35 BAD first", x.row(6, 0, -1), -1);
        due.is("35 nothing there", x.put(0, 0, 1), -11);
        due.is("35 sixty", x.row(0, 3, 60), 1);
        for (int i = 0; i < 60; i++) {
            due.is("35 zero at first", x.element(0, i), 0);
            x.put(0, i, 7);
        }
        due.is("35 -14 changes nothing", x.row(0, 0, -1), -14);
        due.is("35 the row is there", x.element(0, 59), 7);
        due.is("35 anew", x.row(0, 4, 60), 1);
        for (int i = 0; i < 60; i++) due.is("35 zero anew", x.element(0, i), 0);
        due.is("35 none", x.row(0, 0, 0), 1);
        due.is("35 no element", x.put(0, 0, 1), -13);
    }

    private static void promise36Put() {
        ShieldLine x = new ShieldLine();
        due.is("36 shelf -1", x.put(-1, 0, 1), -1);
        due.is("36 shelf 6", x.put(6, 0, 1), -1);
        due.is("36 nothing", x.put(0, 99, 1), -11);
        x.body(0);
        x.keep(0, 0);
        due.is("36 a shield", x.put(0, 99, 1), -12);
        x.row(0, 0, 2);
        due.is("36 at -1", x.put(0, -1, 1), -13);
        due.is("36 at 2", x.put(0, 2, 1), -13);
        due.is("36 at the least int", x.put(0, Integer.MIN_VALUE, 1), -13);
        due.is("36 at 1", x.put(0, 1, 9), 1);
        due.is("36 it is there", x.element(0, 1), 9);
        due.is("36 0 stays", x.element(0, 0), 0);
        long[] put = {200, 70000, 5000000000L, -1, Long.MIN_VALUE, 256, 1L << 40};
        long[][] kept = {
            {-56, 112, 0, -1, 0, 0, 0},
            {200, 4464, -3584, -1, 0, 256, 0},
            {200, 70000, 705032704, -1, 0, 256, 0},
            {200, 70000, 5000000000L, -1, Long.MIN_VALUE, 256, 1L << 40},
            {1, 1, 1, 1, 1, 1, 1}};
        for (int sort = 0; sort <= 4; sort++) {
            x.row(1, sort, put.length);
            for (int i = 0; i < put.length; i++) {
                due.is("36 put", x.put(1, i, put[i]), 1);
                due.is("36 lowest bits, sort " + sort + " of " + put[i], x.element(1, i), kept[sort][i]);
            }
            x.put(1, 0, 0);
            due.is("36 zero", x.element(1, 0), 0);
        }
    }

    private static void promise37Element() {
        ShieldLine x = new ShieldLine();
        due.is("37 shelf -1", x.element(-1, 0), NONE);
        due.is("37 shelf 6", x.element(6, 0), NONE);
        due.is("37 nothing", x.element(0, 0), NONE);
        x.body(0);
        x.keep(0, 0);
        due.is("37 a shield", x.element(0, 0), NONE);
        x.row(0, 3, 3);
        x.put(0, 2, 123456789012L);
        due.is("37 at 2", x.element(0, 2), 123456789012L);
        due.is("37 at 0", x.element(0, 0), 0);
        due.is("37 at -1", x.element(0, -1), NONE);
        due.is("37 at 3", x.element(0, 3), NONE);
        due.is("37 at the greatest int", x.element(0, Integer.MAX_VALUE), NONE);
    }

    private static void rows(ShieldLine x, int shelf, int... want) {
        for (int i = 0; i < want.length; i++) due.is("38 element " + i, x.element(shelf, i), want[i]);
    }

    private static void promise38Shift() {
        ShieldLine x = new ShieldLine();
        Due.bytes(x, 0, 1, 2, 3, 4, 5);
        x.row(1, 0, 3);
        x.row(2, 1, 5);
        x.body(0);
        x.keep(3, 0);
        due.is("38 shelf -1", x.shift(-1, 0, 0, 0, 1), -1);
        due.is("38 shelf 6", x.shift(0, 0, 6, 0, 1), -1);
        due.is("38 BAD first", x.shift(4, 0, 6, 0, 1), -1);
        due.is("38 nothing there", x.shift(4, 0, 0, 0, 1), -11);
        due.is("38 nothing here", x.shift(0, 0, 4, 0, 1), -11);
        due.is("38 -11 first", x.shift(3, 0, 4, 0, 1), -11);
        due.is("38 a shield", x.shift(3, 0, 0, 0, 1), -12);
        due.is("38 to a shield", x.shift(0, 0, 3, 0, 1), -12);
        due.is("38 two shields", x.shift(3, 0, 3, 0, 0), -12);
        due.is("38 unlike sorts", x.shift(0, 0, 2, 0, 1), -12);
        due.is("38 -12 first", x.shift(0, -1, 2, 0, -1), -12);
        int[][] outside = {{-1, 0, 1}, {0, -1, 1}, {0, 0, 4}, {3, 0, 3}, {0, 2, 2}, {6, 0, 0}, {0, 4, 0}, {0, 0, -1},
            {Integer.MAX_VALUE, 0, 1}, {0, Integer.MAX_VALUE, 1}, {1, 1, Integer.MAX_VALUE}, {0, 0, Integer.MIN_VALUE}};
        for (int[] o : outside) due.is("38 outside", x.shift(0, o[0], 1, o[1], o[2]), -13);
        due.is("38 nothing has come", x.element(1, 0), 0);
        due.is("38 none", x.shift(0, 5, 1, 3, 0), 0);
        due.is("38 two", x.shift(0, 3, 1, 1, 2), 2);
        rows(x, 1, 0, 4, 5);
        rows(x, 0, 1, 2, 3, 4, 5);
        due.is("38 the same, upward", x.shift(0, 0, 0, 1, 4), 4);
        rows(x, 0, 1, 1, 2, 3, 4);
        due.is("38 the same, downward", x.shift(0, 1, 0, 0, 4), 4);
        rows(x, 0, 1, 2, 3, 4, 4);
        due.is("38 all of it", x.shift(1, 0, 0, 2, 3), 3);
        rows(x, 0, 1, 2, 0, 4, 5);
    }

    private static void promise39Taken() {
        ShieldLine x = new ShieldLine();
        due.is("39 shelf -1", x.taken(-1, 0), -1);
        due.is("39 shelf 6", x.taken(6, 0), -1);
        due.is("39 kind -1", x.taken(0, -1), -1);
        due.is("39 kind 8", x.taken(0, 8), -1);
        due.is("39 nothing", x.taken(0, 0), -11);
        x.row(0, 0, 1);
        due.is("39 a row", x.taken(0, 0), -12);
        int[] above = {1, 3, 5, 13, 19, 45, 65, 147};
        for (int kind = 0; kind < 8; kind++) {
            x.keep(1, x.body(kind));
            for (int k = 0; k < 8; k++) {
                due.is("39 " + kind + " for " + k, x.taken(1, k), (above[kind] >> k & 1) == 1 ? kind : -12);
            }
        }
    }

    private static void promise40Count() {
        ShieldLine x = new ShieldLine();
        due.is("40 what -1", x.count(-1), -1);
        due.is("40 what 6", x.count(6), -1);
        x.person(0);
        x.person(1);
        x.person(2);
        x.mend(1, 3, 0);
        x.mend(2, 3, 0);
        x.mend(2, 3, 1);
        x.mend(2, 3, 0);
        x.undo();
        for (int i = 0; i < 7; i++) x.feed('g');
        for (int i = 0; i < 5; i++) x.body(4);
        x.act(4, 3, 1);
        int[] due5 = {3, 1, 7, 3, 5, 8};
        for (int what = 0; what <= 5; what++) due.is("40 count " + what, x.count(what), due5[what]);
        x.act(4, 9, 1);
        due.is("40 no trace", x.count(5), 0);
    }

    public static void main(String[] args) {
        promise31Body();
        promise32Act();
        promise34Keep();
        promise35Row();
        promise36Put();
        promise37Element();
        promise38Shift();
        promise39Taken();
        promise40Count();
        due.end();
    }
}
