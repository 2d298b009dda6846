/** Promises 31 to 40: each sentence of the document that names a boundary, at it and just beside it. */
public final class ShelfEdgeTest {
    private static final Due due = new Due();
    private static final int BAD = -1, FULL = -3, MISSING = -11, UNLIKE = -12, OUTSIDE = -13, BELOW = -14;
    private static final long NONE = Long.MIN_VALUE;
    private static final int LEAST = Integer.MIN_VALUE, MOST = Integer.MAX_VALUE, HALF = 1 << 30;
    private static final String ROW = "a ROW: of 0 bytes, 1 shorts, 2 ints, 3 longs, 4 booleans, of 0 .. 60 elements, 0 at first (false);";
    private static final String LOWEST = "what is put in keeps its lowest bits (a boolean: whether it is not 0; 1 or 0).";
    private static final String SHELVES = "SHELVES 0 .. 5 each hold nothing (at first), a SHIELD (a BODY), or a ROW";

    /** A body of each kind, its number the kind's. */
    private static ShieldLine kinds() {
        ShieldLine x = new ShieldLine();
        for (int kind = 0; kind < 8; kind++) x.body(kind);
        return x;
    }

    // ---- promise 31

    @Edge(promise = 31, says = {"A SHIELD of a KIND (0 .. 7) is kept: its number. BAD", "of KINDS: 0 SHIELD;", "7 HILL under WIDOW."})
    static void kindsOfBodies() {
        ShieldLine x = new ShieldLine();
        int[] bad = {-1, 8, 9, LEAST, MOST};
        for (int kind : bad) due.is("body(" + kind + ")", x.body(kind), BAD);
        due.is("count(4)", x.count(4), 0);
        int[] good = {0, 7, 1, 6};
        for (int i = 0; i < 4; i++) due.is("body(" + good[i] + ")", x.body(good[i]), i);
        for (int i = 0; i < 4; i++) {
            x.keep(0, i);
            due.is("KIND of " + i, x.taken(0, 0), good[i]);
        }
    }

    @Edge(promise = 31, says = {"BODIES 0 .. 49", "is kept: its number. BAD, FULL."})
    static void fiftyBodies() {
        ShieldLine x = new ShieldLine();
        for (int i = 0; i < 50; i++) due.is("body()", x.body(i % 8), i);
        due.is("the 51st", x.body(0), FULL);
        due.is("the 52nd", x.body(7), FULL);
        due.is("count(4)", x.count(4), 50);
        due.is("act(49, 0, 1) of KIND 1", x.act(49, 0, 1), 53);
        due.is("act(50, 0, 1)", x.act(50, 0, 1), 0);
    }

    @Edge(promise = 31, says = "Answers, of several the one named first")
    static void badIsNamedAheadOfFullByBody() {
        ShieldLine x = new ShieldLine();
        for (int i = 0; i < 50; i++) x.body(0);
        due.is("body(8) of fifty", x.body(8), BAD);
        due.is("body(-1) of fifty", x.body(-1), BAD);
        due.is("body(7) of fifty", x.body(7), FULL);
    }

    @Edge(promise = 31, says = "What is answered so changes nothing.")
    static void refusedBodyChangesNothing() {
        Edges.changesNothing(due, x -> {
            x.body(-1);
            x.body(8);
        });
        Edges.changesNothing(due, () -> {
            ShieldLine x = Whole.town();
            for (int i = 2; i < 50; i++) x.body(i % 8);
            return x;
        }, x -> x.body(0));
    }

    // ---- promise 32

    private static void act(ShieldLine x, int body, int act, int arg, int want) {
        due.is("act(" + body + ", " + act + ", " + arg + ")", x.act(body, act, arg), want);
    }

    private static void noTrace(ShieldLine x) {
        due.is("count(5)", x.count(5), 0);
        due.is("trace(0)", x.trace(0), BAD);
    }

    @Edge(promise = 32, says = {"An ACT (0 .. 3) of a SHIELD with x. 0, and no TRACE then: no such SHIELD, ACT.", "BODIES 0 .. 49"})
    static void noSuchShieldOrAct() {
        ShieldLine x = kinds();
        int[] bodies = {-1, 8, 9, 49, 50, LEAST, MOST};
        for (int body : bodies) {
            act(x, 7, 3, 10, 38);
            due.is("count(5)", x.count(5), 14);
            act(x, body, 0, 10, 0);
            noTrace(x);
        }
        int[] acts = {-1, 4, 5, LEAST, MOST};
        for (int act : acts) {
            act(x, 0, 3, 10, 19);
            due.is("count(5)", x.count(5), 4);
            act(x, 0, act, 10, 0);
            noTrace(x);
        }
        act(x, 0, 0, 10, 10);
        act(x, 7, 0, 10, 20);
        ShieldLine y = new ShieldLine();
        act(y, 0, 0, 10, 0);
        noTrace(y);
    }

    @Edge(promise = 32, says = {"ACTS with x (an int that wraps)", "1 bears: x + n."})
    static void bearsWraps() {
        ShieldLine x = kinds();
        act(x, 0, 0, MOST, MOST);
        act(x, 2, 0, MOST - 2, MOST);
        act(x, 2, 0, MOST - 1, LEAST);
        act(x, 2, 0, MOST, LEAST + 1);
        act(x, 2, 0, LEAST, LEAST + 2);
        act(x, 1, 0, MOST - 4, MOST);
        act(x, 1, 0, MOST - 3, LEAST);
        act(x, 6, 0, HALF - 7, MOST - 1);
        act(x, 6, 0, HALF - 6, LEAST);
        act(x, 6, 0, LEAST - 6, 0);
        act(x, 6, 0, -HALF - 6, LEAST);
        act(x, 6, 0, -HALF - 7, MOST - 1);
    }

    @Edge(promise = 32, says = {"ACTS with x (an int that wraps)", "10 cares: bears(x) * 2."})
    static void caresWraps() {
        ShieldLine x = kinds();
        act(x, 0, 1, HALF - 1, MOST - 1);
        act(x, 0, 1, HALF, LEAST);
        act(x, 0, 1, LEAST, 0);
        act(x, 0, 1, MOST, -2);
        act(x, 2, 1, HALF - 3, 1 - MOST);
        act(x, 2, 1, HALF - 2, LEAST);
        act(x, 3, 1, HALF - 5, 1 - MOST);
        act(x, 3, 1, HALF - 4, LEAST);
        act(x, 3, 1, MOST, -6);
        act(x, 3, 1, MOST - 1, -4);
        act(x, 7, 1, HALF - 11, MOST - 1 - 7);
        act(x, 7, 1, HALF - 10, LEAST - 7);
    }

    @Edge(promise = 32, says = {"ACTS with x (an int that wraps)", "40 lacks: super.lacks(x) * 3.",
        "50 lacks: super.lacks(x) - bears(2)."})
    static void lacksWraps() {
        ShieldLine x = kinds();
        act(x, 0, 2, LEAST, LEAST);
        act(x, 2, 2, MOST, MOST - 2);
        act(x, 2, 2, LEAST, LEAST + 2);
        act(x, 3, 2, 715827882 ^ 3, MOST - 1);
        act(x, 3, 2, 715827883 ^ 3, LEAST + 1);
        act(x, 4, 2, LEAST + 9 ^ 4, LEAST);
        act(x, 4, 2, LEAST + 8 ^ 4, MOST);
        act(x, 4, 2, LEAST ^ 4, MOST - 8);
    }

    @Edge(promise = 32, says = {"ACTS with x (an int that wraps)", "2 tells: cares(x) - lacks(1)."})
    static void tellsWraps() {
        ShieldLine x = kinds();
        act(x, 0, 3, HALF, MOST);
        act(x, 0, 3, HALF - 1, MOST - 2);
        act(x, 2, 3, HALF - 2, LEAST - 3);
        act(x, 5, 3, HALF - 6, LEAST - 12 ^ 5);
        act(x, 5, 3, HALF - 7, 1 - MOST - 12 ^ 5);
        act(x, 7, 3, HALF - 11, MOST - 1 - 7 - (6 - 12) - 1);
        act(x, 7, 3, HALF - 10, LEAST - 7 - (6 - 12) - 1);
    }

    @Edge(promise = 32, says = {"the body of its own KIND, or of the next KIND above that has one; super: from the KIND above the body's on."})
    static void theNextKindAboveThatHasOne() {
        int[][] bears = {{10, 1}, {14, 20, 1}, {12, 1}, {13, 1}, {17, 20, 1}, {15, 1}, {32, 70, 1}, {20, 20, 1}};
        int[][] lacks = {{10, 11}, {11, 11}, {8, 11}, {27, 40, 11}, {5, 50, 11, 20, 1}, {45, 40, 11}, {12, 11}, {1, 50, 11, 20, 1}};
        int[][] cares = {{20, 10, 1}, {28, 10, 20, 1}, {-24, 30, 10, 1}, {-28, 41, 30, 10, 1}, {34, 10, 20, 1},
            {-32, 41, 30, 10, 1}, {64, 10, 70, 1}, {33, 80, 10, 20, 1, 50, 11, 20, 1}};
        int[][] tells = {{19, 2, 10, 1, 11}, {28, 2, 10, 20, 1, 11}, {-27, 2, 30, 10, 1, 11}, {-34, 2, 41, 30, 10, 1, 40, 11},
            {38, 2, 10, 20, 1, 50, 11, 20, 1}, {-44 ^ 5, 60, 2, 41, 30, 10, 1, 40, 11}, {57, 2, 10, 70, 1, 11},
            {38, 81, 2, 80, 10, 20, 1, 50, 11, 20, 1, 50, 11, 20, 1}};
        ShieldLine x = kinds();
        for (int kind = 0; kind < 8; kind++) {
            traced(x, kind, 0, bears[kind]);
            traced(x, kind, 1, cares[kind]);
            traced(x, kind, 2, lacks[kind]);
            traced(x, kind, 3, tells[kind]);
        }
    }

    private static void traced(ShieldLine x, int body, int act, int[] want) {
        act(x, body, act, 10, want[0]);
        due.is("count(5)", x.count(5), want.length - 1);
        for (int i = 1; i < want.length; i++) due.is("trace(" + (i - 1) + ")", x.trace(i - 1), want[i]);
    }

    // ---- promise 33

    @Edge(promise = 33, says = {"THE TRACE's i-th body. BAD."})
    static void placesOfTheTrace() {
        ShieldLine x = kinds();
        due.is("trace(0) at first", x.trace(0), BAD);
        x.act(7, 0, 1);
        int[] bad = {-1, 2, 3, 23, 24, LEAST, MOST};
        for (int i : bad) due.is("trace(" + i + ") of two", x.trace(i), BAD);
        due.is("trace(0) of two", x.trace(0), 20);
        due.is("trace(1) of two", x.trace(1), 1);
        x.act(0, 2, 1);
        due.is("trace(0) of one", x.trace(0), 11);
        due.is("trace(1) of one, what was kept ahead of it", x.trace(1), BAD);
        x.act(8, 0, 1);
        due.is("trace(0) of none", x.trace(0), BAD);
    }

    /** No act runs more than fourteen bodies, so that the 24 kept are never too few. */
    @Edge(promise = 33, says = {"THE TRACE: numbers of the bodies that ran in the latest act(), as they began; the first 24 are kept."})
    static void theLongestTraceIsKept() {
        ShieldLine x = kinds();
        x.act(7, 3, 10);
        int[] ran = {81, 2, 80, 10, 20, 1, 50, 11, 20, 1, 50, 11, 20, 1};
        for (int i = 0; i < ran.length; i++) due.is("trace(" + i + ")", x.trace(i), ran[i]);
        due.is("trace(14)", x.trace(14), BAD);
        due.is("count(5)", x.count(5), 14);
        for (int body = 0; body < 8; body++) {
            for (int act = 0; act < 4; act++) {
                x.act(body, act, 1);
                int most = x.count(5);
                due.is("14 at most ran by act(" + body + ", " + act + ", 1)", Math.max(14, most), 14);
                due.is("the last is kept", x.trace(most - 1) > 0 ? 1 : 0, 1);
                due.is("none behind it", x.trace(most), BAD);
            }
        }
    }

    // ---- promise 34

    @Edge(promise = 34, says = {"A SHELF holds nothing (body -1), or a SHIELD: 1. BAD.", "BODIES 0 .. 49"})
    static void bodiesKept() {
        ShieldLine x = new ShieldLine();
        due.is("keep(0, 0) of none", x.keep(0, 0), BAD);
        due.is("keep(0, -1) of none", x.keep(0, -1), 1);
        for (int i = 0; i < 50; i++) {
            due.is("keep(0, " + i + ") ahead of its body()", x.keep(0, i), BAD);
            x.body(i % 8);
        }
        int[] bad = {-2, 50, 51, LEAST, MOST};
        for (int body : bad) due.is("keep(0, " + body + ")", x.keep(0, body), BAD);
        due.is("taken(0, 0)", x.taken(0, 0), MISSING);
        due.is("keep(0, 0)", x.keep(0, 0), 1);
        due.is("taken(0, 0)", x.taken(0, 0), 0);
        due.is("keep(0, 49)", x.keep(0, 49), 1);
        due.is("taken(0, 0)", x.taken(0, 0), 1);
        due.is("keep(0, -1)", x.keep(0, -1), 1);
        due.is("taken(0, 0)", x.taken(0, 0), MISSING);
    }

    @Edge(promise = 34, says = SHELVES)
    static void shelvesThatKeep() {
        ShieldLine x = kinds();
        int[] bad = {-1, 6, 7, LEAST, MOST};
        for (int shelf : bad) {
            due.is("keep(" + shelf + ", 0)", x.keep(shelf, 0), BAD);
            due.is("keep(" + shelf + ", -1)", x.keep(shelf, -1), BAD);
        }
        for (int shelf = 0; shelf <= 5; shelf++) due.is("keep(" + shelf + ", ..)", x.keep(shelf, 7 - shelf), 1);
        for (int shelf = 0; shelf <= 5; shelf++) due.is("taken(" + shelf + ", 0)", x.taken(shelf, 0), 7 - shelf);
        due.is("keep(0, -1)", x.keep(0, -1), 1);
        due.is("taken(0, 0)", x.taken(0, 0), MISSING);
        due.is("taken(1, 0)", x.taken(1, 0), 6);
        x.row(0, 0, 2);
        x.put(0, 1, 5);
        due.is("keep(0, 3) over a row", x.keep(0, 3), 1);
        due.is("put(0, 0, 1)", x.put(0, 0, 1), UNLIKE);
        x.row(0, 0, 2);
        due.is("element(0, 1) of a new row", x.element(0, 1), 0);
    }

    @Edge(promise = 34, says = "What is answered so changes nothing.")
    static void refusedKeepChangesNothing() {
        Edges.changesNothing(due, x -> {
            x.keep(-1, 0);
            x.keep(6, 0);
            x.keep(0, -2);
            x.keep(0, 2);
            x.keep(1, 2);
        });
    }

    // ---- promise 35

    @Edge(promise = 35, says = {ROW, "A SHELF holds a ROW: 1. BAD (sort, n above 60); -14.", "-14 a size below 0."})
    static void sizesOfRows() {
        ShieldLine x = new ShieldLine();
        int[] above = {61, 62, MOST};
        for (int n : above) due.is("row(0, 0, " + n + ")", x.row(0, 0, n), BAD);
        int[] below = {-1, -2, LEAST};
        for (int n : below) due.is("row(0, 0, " + n + ")", x.row(0, 0, n), BELOW);
        due.is("taken(0, 0)", x.taken(0, 0), MISSING);
        int[] good = {0, 1, 59, 60};
        for (int n : good) {
            due.is("row(0, 3, " + n + ")", x.row(0, 3, n), 1);
            due.is("put(0, " + n + ", 1)", x.put(0, n, 1), OUTSIDE);
            due.is("put(0, " + (n - 1) + ", 1)", x.put(0, n - 1, 1), n == 0 ? OUTSIDE : 1);
        }
    }

    @Edge(promise = 35, says = {ROW, "A SHELF holds a ROW: 1. BAD (sort, n above 60)"})
    static void sortsOfRows() {
        ShieldLine x = new ShieldLine();
        int[] bad = {-1, 5, 6, LEAST, MOST};
        for (int sort : bad) due.is("row(0, " + sort + ", 1)", x.row(0, sort, 1), BAD);
        long[] kept = {-56, 456, 1 << 20, 1L << 40, 1};
        long[] put = {200, 456 + (1 << 16), (1 << 20) + (1L << 32), 1L << 40, 1L << 40};
        for (int sort = 0; sort <= 4; sort++) {
            due.is("row(0, " + sort + ", 1)", x.row(0, sort, 1), 1);
            x.put(0, 0, put[sort]);
            due.is("element(0, 0) of sort " + sort, x.element(0, 0), kept[sort]);
        }
        int[] shelves = {-1, 6, LEAST, MOST};
        for (int shelf : shelves) due.is("row(" + shelf + ", 0, 1)", x.row(shelf, 0, 1), BAD);
        for (int shelf = 0; shelf <= 5; shelf++) due.is("row(" + shelf + ", 0, 1)", x.row(shelf, 0, 1), 1);
    }

    @Edge(promise = 35, says = "Answers, of several the one named first")
    static void badIsNamedAheadOfASizeBelowZero() {
        ShieldLine x = new ShieldLine();
        due.is("row(0, 5, -1)", x.row(0, 5, -1), BAD);
        due.is("row(0, -1, -1)", x.row(0, -1, -1), BAD);
        due.is("row(6, 0, -1)", x.row(6, 0, -1), BAD);
        due.is("row(-1, 0, -1)", x.row(-1, 0, -1), BAD);
        due.is("row(0, 4, -1)", x.row(0, 4, -1), BELOW);
    }

    @Edge(promise = 35, says = "of 0 .. 60 elements, 0 at first (false)")
    static void elementsAtFirst() {
        ShieldLine x = new ShieldLine();
        x.row(1, 3, 60);
        for (int i = 0; i < 60; i++) x.put(1, i, -1);
        x.row(0, 3, 60);
        x.row(2, 3, 60);
        due.is("element(0, 59)", x.element(0, 59), 0);
        due.is("element(2, 0)", x.element(2, 0), 0);
        due.is("element(1, 0)", x.element(1, 0), -1);
        due.is("element(1, 59)", x.element(1, 59), -1);
        x.row(1, 4, 60);
        for (int i = 0; i < 60; i++) due.is("element(1, " + i + ") of a new row", x.element(1, i), 0);
        x.put(1, 59, 1);
        x.row(1, 0, 3);
        x.row(1, 0, 60);
        due.is("element(1, 59) of a longer row", x.element(1, 59), 0);
    }

    @Edge(promise = 35, says = "What is answered so changes nothing.")
    static void refusedRowChangesNothing() {
        Edges.changesNothing(due, x -> {
            for (int shelf = 0; shelf <= 5; shelf++) {
                x.row(shelf, 5, 1);
                x.row(shelf, -1, 1);
                x.row(shelf, 0, 61);
                x.row(shelf, 0, -1);
            }
            x.row(-1, 0, 1);
            x.row(6, 0, 1);
        });
    }

    // ---- promise 36

    @Edge(promise = 36, says = {"Element i of a ROW becomes v: 1. BAD, -11, -12, -13.", "-11 nothing is there where something is wanted; "
        + "-12 it is of another kind; -13 a place that is not there;"})
    static void placesOfPut() {
        ShieldLine x = kinds();
        int[] shelves = {-1, 6, LEAST, MOST};
        for (int shelf : shelves) due.is("put(" + shelf + ", 0, 1)", x.put(shelf, 0, 1), BAD);
        due.is("put(5, 0, 1) of nothing", x.put(5, 0, 1), MISSING);
        x.keep(5, 0);
        due.is("put(5, 0, 1) of a shield", x.put(5, 0, 1), UNLIKE);
        due.is("put(5, -1, 1) of a shield", x.put(5, -1, 1), UNLIKE);
        x.keep(5, -1);
        due.is("put(5, -1, 1) of nothing", x.put(5, -1, 1), MISSING);
        x.row(5, 0, 0);
        due.is("put(5, 0, 1) of no elements", x.put(5, 0, 1), OUTSIDE);
        for (int sort = 0; sort <= 4; sort++) {
            x.row(5, sort, 3);
            int[] bad = {-1, 3, 4, 59, 60, LEAST, MOST};
            for (int i : bad) due.is("put(5, " + i + ", 1) of three", x.put(5, i, 1), OUTSIDE);
            for (int i = 0; i < 3; i++) due.is("put(5, " + i + ", 1) of three", x.put(5, i, 1), 1);
        }
        x.row(0, 3, 60);
        x.row(1, 3, 60);
        due.is("put(0, 59, 8)", x.put(0, 59, 8), 1);
        due.is("put(0, 60, 9)", x.put(0, 60, 9), OUTSIDE);
        due.is("element(1, 0), the next shelf's", x.element(1, 0), 0);
        due.is("put(1, -1, 9)", x.put(1, -1, 9), OUTSIDE);
        due.is("element(0, 59), the shelf's ahead of it", x.element(0, 59), 8);
    }

    private static void kept(int sort, long... putAndKept) {
        ShieldLine x = new ShieldLine();
        x.row(0, sort, 3);
        for (int i = 0; i < putAndKept.length; i += 2) {
            x.put(0, 1, putAndKept[i]);
            due.is("element(0, 1) of sort " + sort + " from " + putAndKept[i], x.element(0, 1), putAndKept[i + 1]);
            due.is("element(0, 0)", x.element(0, 0), 0);
            due.is("element(0, 2)", x.element(0, 2), 0);
        }
    }

    @Edge(promise = 36, says = LOWEST)
    static void lowestBitsOfBytesAndShorts() {
        kept(0, 127, 127, 128, -128, 129, -127, 255, -1, 256, 0, 257, 1, -128, -128, -129, 127, -1, -1, -256, 0,
            1L << 32, 0, (1L << 40) + 5, 5, Long.MAX_VALUE, -1, Long.MIN_VALUE, 0);
        kept(1, 32767, 32767, 32768, -32768, 65535, -1, 65536, 0, 65537, 1, -32768, -32768, -32769, 32767, 128, 128, 255, 255,
            1L << 32, 0, Long.MAX_VALUE, -1, Long.MIN_VALUE, 0);
    }

    @Edge(promise = 36, says = LOWEST)
    static void lowestBitsOfIntsAndLongs() {
        kept(2, MOST, MOST, 1L + MOST, LEAST, 2L + MOST, LEAST + 1, LEAST, LEAST, LEAST - 1L, MOST, 65536, 65536,
            1L << 32, 0, (1L << 32) + 7, 7, -1L, -1, Long.MAX_VALUE, -1, Long.MIN_VALUE, 0);
        kept(3, MOST, MOST, 1L + MOST, 1L + MOST, LEAST - 1L, LEAST - 1L, 1L << 32, 1L << 32, Long.MAX_VALUE, Long.MAX_VALUE,
            Long.MIN_VALUE + 1, Long.MIN_VALUE + 1, Long.MIN_VALUE, Long.MIN_VALUE, -1, -1, 0, 0);
    }

    @Edge(promise = 36, says = LOWEST)
    static void booleansAreOneOrZero() {
        kept(4, 1, 1, 0, 0, 2, 1, 0, 0, -1, 1, 256, 1, 1L << 32, 1, Long.MIN_VALUE, 1, Long.MAX_VALUE, 1, 0, 0);
    }

    @Edge(promise = 36, says = "What is answered so changes nothing.")
    static void refusedPutChangesNothing() {
        Edges.changesNothing(due, x -> {
            x.put(-1, 0, 7);
            x.put(6, 0, 7);
            x.put(2, 0, 7);
            x.put(1, 0, 7);
            x.put(0, -1, 7);
            x.put(0, 4, 7);
            x.put(3, 2, 7);
            x.put(4, 3, 7);
            x.put(5, 0, 7);
        });
    }

    // ---- promise 37

    @Edge(promise = 37, says = "Element i of a ROW; Long.MIN_VALUE: BAD, -11 to -13.")
    static void placesOfElement() {
        ShieldLine x = kinds();
        int[] shelves = {-1, 6, LEAST, MOST};
        for (int shelf : shelves) due.is("element(" + shelf + ", 0)", x.element(shelf, 0), NONE);
        for (int shelf = 0; shelf <= 5; shelf++) due.is("element(" + shelf + ", 0) of nothing", x.element(shelf, 0), NONE);
        x.keep(5, 0);
        due.is("element(5, 0) of a shield", x.element(5, 0), NONE);
        x.row(5, 3, 0);
        due.is("element(5, 0) of no elements", x.element(5, 0), NONE);
        x.row(5, 3, 60);
        x.put(5, 0, 7);
        x.put(5, 59, 8);
        int[] bad = {-1, 60, 61, LEAST, MOST};
        for (int i : bad) due.is("element(5, " + i + ") of sixty", x.element(5, i), NONE);
        due.is("element(5, 0)", x.element(5, 0), 7);
        due.is("element(5, 1)", x.element(5, 1), 0);
        due.is("element(5, 58)", x.element(5, 58), 0);
        due.is("element(5, 59)", x.element(5, 59), 8);
        for (int sort = 0; sort <= 4; sort++) {
            x.row(0, sort, 2);
            due.is("element(0, 1) of sort " + sort, x.element(0, 1), 0);
            due.is("element(0, 2) of sort " + sort, x.element(0, 2), NONE);
            due.is("element(0, -1) of sort " + sort, x.element(0, -1), NONE);
        }
    }

    @Edge(promise = 37, says = "What is answered so changes nothing.")
    static void elementChangesNothing() {
        Edges.changesNothing(due, x -> {
            for (int shelf = -1; shelf <= 6; shelf++) {
                x.element(shelf, -1);
                x.element(shelf, 0);
                x.element(shelf, 60);
            }
        });
    }

    // ---- promise 38

    private static void elements(ShieldLine x, int shelf, int... want) {
        for (int i = 0; i < want.length; i++) due.is("element(" + shelf + ", " + i + ")", x.element(shelf, i), want[i]);
    }

    @Edge(promise = 38, says = {"-13 a place that is not there;",
        "as they all were before: n. BAD, -11 (either), -12 (no ROWS, or of unlike sorts), -13."})
    static void placesOfShift() {
        ShieldLine x = new ShieldLine();
        Due.bytes(x, 0, 1, 2, 3, 4, 5);
        x.row(1, 0, 3);
        int[][] outside = {{0, 0, 4}, {0, 0, 6}, {1, 1, 3}, {3, 0, 3}, {0, 1, 3}, {2, 0, 4}, {-1, 0, 1}, {0, -1, 1}, {5, 0, 1}, {0, 3, 1},
            {6, 0, 0}, {0, 4, 0}, {-1, 0, 0}, {0, -1, 0}, {0, 0, -1}, {1, 1, -1}, {5, 3, -1}, {MOST, 0, 1}, {0, MOST, 1}, {0, 0, MOST},
            {1, 0, MOST}, {0, 1, MOST}, {LEAST, 0, 1}, {0, LEAST, 1}, {0, 0, LEAST}, {MOST, 0, MOST}, {LEAST, LEAST, LEAST}};
        for (int[] o : outside) due.is("shift(0, " + o[0] + ", 1, " + o[1] + ", " + o[2] + ")", x.shift(0, o[0], 1, o[1], o[2]), OUTSIDE);
        elements(x, 1, 0, 0, 0);
        int[][] none = {{0, 0, 0}, {5, 0, 0}, {0, 3, 0}, {5, 3, 0}};
        for (int[] o : none) due.is("shift(0, " + o[0] + ", 1, " + o[1] + ", 0)", x.shift(0, o[0], 1, o[1], 0), 0);
        elements(x, 1, 0, 0, 0);
        due.is("shift(0, 4, 1, 2, 1)", x.shift(0, 4, 1, 2, 1), 1);
        elements(x, 1, 0, 0, 5);
        due.is("shift(0, 0, 1, 0, 3)", x.shift(0, 0, 1, 0, 3), 3);
        elements(x, 1, 1, 2, 3);
        due.is("shift(0, 2, 1, 0, 3)", x.shift(0, 2, 1, 0, 3), 3);
        elements(x, 1, 3, 4, 5);
        due.is("shift(1, 0, 0, 2, 3)", x.shift(1, 0, 0, 2, 3), 3);
        due.is("shift(1, 0, 0, 3, 3)", x.shift(1, 0, 0, 3, 3), OUTSIDE);
        elements(x, 0, 1, 2, 3, 4, 5);
        x.row(2, 3, 60);
        x.row(3, 3, 60);
        x.put(2, 59, 9);
        due.is("shift(2, 0, 3, 0, 60)", x.shift(2, 0, 3, 0, 60), 60);
        due.is("element(3, 59)", x.element(3, 59), 9);
        due.is("shift(2, 0, 3, 0, 61)", x.shift(2, 0, 3, 0, 61), OUTSIDE);
    }

    @Edge(promise = 38, says = "-11 (either), -12 (no ROWS, or of unlike sorts)")
    static void shelvesOfShift() {
        ShieldLine x = kinds();
        x.keep(1, 0);
        x.row(2, 0, 2);
        int[] bad = {-1, 6, LEAST, MOST};
        for (int shelf : bad) {
            due.is("shift(" + shelf + ", 0, 2, 0, 1)", x.shift(shelf, 0, 2, 0, 1), BAD);
            due.is("shift(2, 0, " + shelf + ", 0, 1)", x.shift(2, 0, shelf, 0, 1), BAD);
        }
        due.is("shift(0, 0, 2, 0, 1) of nothing", x.shift(0, 0, 2, 0, 1), MISSING);
        due.is("shift(2, 0, 0, 0, 1) to nothing", x.shift(2, 0, 0, 0, 1), MISSING);
        due.is("shift(0, 0, 0, 0, 0) of nothing", x.shift(0, 0, 0, 0, 0), MISSING);
        due.is("shift(1, 0, 2, 0, 1) of a shield", x.shift(1, 0, 2, 0, 1), UNLIKE);
        due.is("shift(2, 0, 1, 0, 1) to a shield", x.shift(2, 0, 1, 0, 1), UNLIKE);
        due.is("shift(1, 0, 1, 0, 0) of a shield", x.shift(1, 0, 1, 0, 0), UNLIKE);
        for (int a = 0; a <= 4; a++) {
            for (int b = 0; b <= 4; b++) {
                x.row(3, a, 1);
                x.row(4, b, 1);
                due.is("shift(3, 0, 4, 0, 1) of sorts " + a + ", " + b, x.shift(3, 0, 4, 0, 1), a == b ? 1 : UNLIKE);
                due.is("shift(3, 0, 4, 0, 0) of sorts " + a + ", " + b, x.shift(3, 0, 4, 0, 0), a == b ? 0 : UNLIKE);
            }
        }
        x.row(5, 0, 2);
        due.is("shift(5, 0, 2, 0, 2)", x.shift(5, 0, 2, 0, 2), 2);
    }

    @Edge(promise = 38, says = "Answers, of several the one named first")
    static void theFirstRefusalOfShift() {
        ShieldLine x = kinds();
        x.keep(1, 0);
        x.row(2, 0, 2);
        x.row(3, 1, 2);
        due.is("shift(0, 0, 6, 0, 1): BAD ahead of -11", x.shift(0, 0, 6, 0, 1), BAD);
        due.is("shift(6, 0, 0, 0, 1): BAD ahead of -11", x.shift(6, 0, 0, 0, 1), BAD);
        due.is("shift(1, 0, -1, 0, 1): BAD ahead of -12", x.shift(1, 0, -1, 0, 1), BAD);
        due.is("shift(1, 0, 0, 0, 1): -11 ahead of -12", x.shift(1, 0, 0, 0, 1), MISSING);
        due.is("shift(0, 0, 1, 0, 1): -11 ahead of -12", x.shift(0, 0, 1, 0, 1), MISSING);
        due.is("shift(0, -1, 2, 0, 1): -11 ahead of -13", x.shift(0, -1, 2, 0, 1), MISSING);
        due.is("shift(2, 0, 0, 9, 1): -11 ahead of -13", x.shift(2, 0, 0, 9, 1), MISSING);
        due.is("shift(2, -1, 3, 0, 1): -12 ahead of -13", x.shift(2, -1, 3, 0, 1), UNLIKE);
        due.is("shift(2, 0, 1, 0, -1): -12 ahead of -13", x.shift(2, 0, 1, 0, -1), UNLIKE);
        due.is("shift(2, 0, 2, 0, 3): -13", x.shift(2, 0, 2, 0, 3), OUTSIDE);
    }

    @Edge(promise = 38, says = "come to another one (or the same) from j on, as they all were before")
    static void asTheyAllWereBefore() {
        ShieldLine x = new ShieldLine();
        Due.bytes(x, 0, 1, 2, 3, 4, 5);
        due.is("shift(0, 0, 0, 1, 4), upward", x.shift(0, 0, 0, 1, 4), 4);
        elements(x, 0, 1, 1, 2, 3, 4);
        Due.bytes(x, 0, 1, 2, 3, 4, 5);
        due.is("shift(0, 1, 0, 0, 4), downward", x.shift(0, 1, 0, 0, 4), 4);
        elements(x, 0, 2, 3, 4, 5, 5);
        due.is("shift(0, 0, 0, 0, 5), to where it is", x.shift(0, 0, 0, 0, 5), 5);
        elements(x, 0, 2, 3, 4, 5, 5);
        due.is("shift(0, 0, 0, 4, 1)", x.shift(0, 0, 0, 4, 1), 1);
        elements(x, 0, 2, 3, 4, 5, 2);
    }

    @Edge(promise = 38, says = "What is answered so changes nothing.")
    static void refusedShiftChangesNothing() {
        Edges.changesNothing(due, x -> {
            x.shift(-1, 0, 0, 0, 1);
            x.shift(0, 0, 6, 0, 1);
            x.shift(2, 0, 0, 0, 1);
            x.shift(0, 0, 2, 0, 1);
            x.shift(1, 0, 0, 0, 1);
            x.shift(0, 0, 3, 0, 1);
            x.shift(0, 3, 0, 0, 2);
            x.shift(0, 0, 0, 3, 2);
            x.shift(0, 0, 5, 0, 1);
            x.shift(0, 0, 0, 1, -1);
        });
    }

    // ---- promise 39

    @Edge(promise = 39, says = {"taken for a SHIELD of KIND k (0 .. 7), or under it: its KIND. BAD, -11, -12.", SHELVES})
    static void refusedTaken() {
        ShieldLine x = kinds();
        int[] shelves = {-1, 6, LEAST, MOST};
        for (int shelf : shelves) due.is("taken(" + shelf + ", 0)", x.taken(shelf, 0), BAD);
        int[] ks = {-1, 8, 9, LEAST, MOST};
        for (int k : ks) due.is("taken(0, " + k + ") of nothing", x.taken(0, k), BAD);
        for (int k = 0; k <= 7; k++) due.is("taken(5, " + k + ") of nothing", x.taken(5, k), MISSING);
        for (int sort = 0; sort <= 4; sort++) {
            x.row(5, sort, 0);
            due.is("taken(5, 0) of sort " + sort, x.taken(5, 0), UNLIKE);
            due.is("taken(5, 7) of sort " + sort, x.taken(5, 7), UNLIKE);
            due.is("taken(5, 8) of sort " + sort, x.taken(5, 8), BAD);
        }
        x.keep(5, 7);
        for (int k : ks) due.is("taken(5, " + k + ") of a shield", x.taken(5, k), BAD);
        due.is("taken(5, 7)", x.taken(5, 7), 7);
        x.keep(5, -1);
        due.is("taken(5, 7) of nothing again", x.taken(5, 7), MISSING);
    }

    @Edge(promise = 39, says = {"1 ROOF under SHIELD; 2 LAMP under SHIELD; 3 POST under LAMP; 4 WIDOW under ROOF; 5 CAN under POST; "
        + "6 KILN under SHIELD; 7 HILL under WIDOW.", "or under it: its KIND."})
    static void takenForItsKindOrOneAbove() {
        ShieldLine x = kinds();
        int[][] above = {{0}, {0, 1}, {0, 2}, {0, 2, 3}, {0, 1, 4}, {0, 2, 3, 5}, {0, 6}, {0, 1, 4, 7}};
        for (int kind = 0; kind < 8; kind++) {
            x.keep(0, kind);
            for (int k = 0; k < 8; k++) {
                int want = UNLIKE;
                for (int a : above[kind]) want = a == k ? kind : want;
                due.is("taken(0, " + k + ") of KIND " + kind, x.taken(0, k), want);
            }
        }
    }

    @Edge(promise = 39, says = "What is answered so changes nothing.")
    static void takenChangesNothing() {
        Edges.changesNothing(due, x -> {
            for (int shelf = -1; shelf <= 6; shelf++) {
                for (int k = -1; k <= 8; k++) x.taken(shelf, k);
            }
        });
    }

    // ---- promise 40

    @Edge(promise = 40, says = "5 bodies that ran in the latest act() (all, kept or not). BAD.")
    static void whatIsCounted() {
        ShieldLine x = Whole.town();
        int[] bad = {-1, 6, 7, LEAST, MOST};
        for (int what : bad) due.is("count(" + what + ")", x.count(what), BAD);
        int[] want = {4, 0, 2, 5, 2, 14};
        for (int what = 0; what <= 5; what++) due.is("count(" + what + ")", x.count(what), want[what]);
        x.act(0, 0, 1);
        due.is("count(5) of the latest", x.count(5), 2);
        x.act(0, 4, 1);
        due.is("count(5) of a refused one", x.count(5), 0);
    }

    @Edge(promise = 40, says = {"0 PEOPLE, 1 that LACK", "One LACKS, if STORE is 0."})
    static void peopleAndWhoLack() {
        ShieldLine x = new ShieldLine();
        for (int i = 0; i < 8; i++) {
            due.is("count(0)", x.count(0), i);
            x.person(0);
        }
        due.is("count(0) of all", x.count(0), 8);
        due.is("count(1) of none", x.count(1), 0);
        for (int i = 0; i < 8; i++) {
            x.mend(i, 3, 1);
            due.is("count(1), STORE 1", x.count(1), i);
            x.mend(i, 3, 0);
            due.is("count(1), STORE 0", x.count(1), i + 1);
        }
    }

    @Edge(promise = 40, says = {"2 bytes on THE TAPE, 3 changes that may be UNDONE, 4 BODIES",
        "(at most 120 bytes)", "40 at most are kept", "BODIES 0 .. 49"})
    static void tapeChangesAndBodiesAtMost() {
        ShieldLine x = Towns.many(1);
        for (int i = 1; i <= 121; i++) x.feed('g');
        due.is("count(2) of 121 fed", x.count(2), 120);
        x.law();
        due.is("count(2) behind law()", x.count(2), 0);
        for (int i = 1; i <= 41; i++) {
            x.mend(0, 3, 20 + i);
            due.is("count(3) of " + i, x.count(3), Math.min(40, i));
        }
        x.undo();
        due.is("count(3) of one undone", x.count(3), 39);
        x.redo();
        due.is("count(3) of one done again", x.count(3), 40);
        for (int i = 1; i <= 51; i++) x.body(0);
        due.is("count(4) of 51", x.count(4), 50);
    }

    @Edge(promise = 40, says = "What is answered so changes nothing.")
    static void countChangesNothing() {
        Edges.changesNothing(due, x -> {
            for (int what = -1; what <= 6; what++) x.count(what);
        });
    }

    public static void main(String[] args) throws Exception {
        Edges.run(ShelfEdgeTest.class, due);
    }
}
