/** Promises 17 to 22: each sentence of the document that names a boundary, at it and just beside it. */
public final class StoresEdgeTest {
    private static final Due due = new Due();
    private static final int BAD = -1, NOT = -2, MISSING = -11, UNLIKE = -12, NOTHING = 8;
    private static final long NONE = Long.MIN_VALUE;
    private static final int LEAST = Integer.MIN_VALUE, MOST = Integer.MAX_VALUE;
    private static final String TOLD = "a ROW of bytes on a SHELF: STORE of one behind 0, 1, 2 .. days (41 at most "
        + "count): JUDGED: the first that is not so; NOT.";
    private static final String GIFTS = "GIFTS: by how many GIVES (0 .. 9) of a told one all is so; the least (NOT).";
    private static final String FOR_WHOM = "FOR WHOM: by which CARES (bits of PEOPLE; 256: for nobody) of him.";
    private static final String CAN = "a ROW of bytes, night by night: 1 it was gone, 0 it stood (30 at most; it ends "
        + "with what is neither)";
    private static final String PAID = "v (0 .. 9999) is shared among those who care for one for whom nobody else "
        + "does, by GIVES: v by those of one, by theirs together (cut); none: 0.";
    private static final String DEEDS = "he lets one care for the next number (behind the last: 0; from nobody: 0; "
        + "himself is passed over; one who is alone: for nobody still), or does nothing;";
    private static final String DRAWN = "n winters (1 .. 30) of m (1 .. 40) days from now by a SEED";

    /** One alone, who needs 1 a day, without wind. */
    private static ShieldLine oneADay(int store) {
        ShieldLine x = Towns.still(1);
        x.mend(0, 2, 1);
        x.mend(0, 3, store);
        return x;
    }

    // ---- promise 17

    @Edge(promise = 17, says = {"JUDGED. BAD, -11, -12 (no ROW of bytes); NOT.", "SHELVES 0 .. 5", "PEOPLE 0 .. 7",
        "stores told, the can, pay (ROWS on a SHELF: BAD, -11, -12 (no ROW of bytes))."})
    static void refusedJudge() {
        ShieldLine x = Towns.many(8);
        for (int shelf = 0; shelf <= 5; shelf++) due.is("judge(" + shelf + ", 0)", x.judge(shelf, 0), MISSING);
        for (int shelf = 0; shelf <= 5; shelf++) Due.bytes(x, shelf, 20);
        int[] shelves = {-1, 6, 7, LEAST, MOST};
        for (int shelf : shelves) due.is("judge(" + shelf + ", 0)", x.judge(shelf, 0), BAD);
        int[] ones = {-1, 8, 9, LEAST, MOST};
        for (int one : ones) due.is("judge(0, " + one + ")", x.judge(0, one), BAD);
        for (int shelf = 0; shelf <= 5; shelf++) due.is("judge(" + shelf + ", 7)", x.judge(shelf, 7), NOT);
        for (int sort = 1; sort <= 4; sort++) {
            x.row(0, sort, 1);
            due.is("judge(0, 0) of sort " + sort, x.judge(0, 0), UNLIKE);
        }
        x.body(0);
        x.keep(0, 0);
        due.is("judge(0, 0) of a shield", x.judge(0, 0), UNLIKE);
        x.keep(0, -1);
        due.is("judge(0, 0) of nothing", x.judge(0, 0), MISSING);
    }

    @Edge(promise = 17, says = "Answers, of several the one named first")
    static void badIsNamedFirstByJudge() {
        ShieldLine x = Towns.many(1);
        due.is("judge(0, 1) of nothing", x.judge(0, 1), BAD);
        x.row(0, 1, 1);
        due.is("judge(0, 1) of shorts", x.judge(0, 1), BAD);
        due.is("judge(6, 1)", x.judge(6, 1), BAD);
        due.is("judge(0, 0) of shorts", x.judge(0, 0), UNLIKE);
    }

    @Edge(promise = 17, says = TOLD)
    static void theFirstThatIsNotSo() {
        ShieldLine x = Towns.many(1);
        x.row(0, 0, 0);
        due.is("judge(0, 0) of an empty row", x.judge(0, 0), NOT);
        Due.bytes(x, 0, 20);
        due.is("judge(0, 0) of one that is so", x.judge(0, 0), NOT);
        Due.bytes(x, 0, 20, 15, 10, 5, 0, 0);
        due.is("judge(0, 0) of all that are so", x.judge(0, 0), NOT);
        for (int i = 5; i >= 0; i--) {
            x.put(0, i, x.element(0, i) + 1);
            due.is("judge(0, 0), the first is " + i, x.judge(0, 0), i);
        }
        Due.bytes(x, 0, 19, 15);
        due.is("judge(0, 0), one less", x.judge(0, 0), 0);
        Due.bytes(x, 0, 20, 15, -1);
        due.is("judge(0, 0), below 0", x.judge(0, 0), 2);
        x.mend(0, 3, 0);
        Due.bytes(x, 0, 0, 0, -128);
        due.is("judge(0, 0), the least byte", x.judge(0, 0), 2);
    }

    @Edge(promise = 17, says = TOLD)
    static void fortyOneAtMostCount() {
        ShieldLine x = oneADay(41);
        x.row(0, 0, 60);
        for (int i = 0; i < 60; i++) x.put(0, i, 41 - i);
        due.is("judge(0, 0), what is behind the 41st is not so", x.judge(0, 0), NOT);
        x.put(0, 41, 77);
        due.is("judge(0, 0), the 42nd is not so", x.judge(0, 0), NOT);
        x.put(0, 40, 2);
        due.is("judge(0, 0), the 41st is not so", x.judge(0, 0), 40);
        x.put(0, 40, 1);
        x.put(0, 39, 1);
        due.is("judge(0, 0), the 40th is not so", x.judge(0, 0), 39);
        x.row(1, 0, 41);
        for (int i = 0; i < 41; i++) x.put(1, i, 41 - i);
        due.is("judge(1, 0) of 41 that are so", x.judge(1, 0), NOT);
        x.put(1, 40, 0);
        due.is("judge(1, 0) of 41, the last is not so", x.judge(1, 0), 40);
        x.row(2, 0, 42);
        for (int i = 0; i < 41; i++) x.put(2, i, 41 - i);
        x.put(2, 41, 7);
        due.is("judge(2, 0) of 42, the last is not so", x.judge(2, 0), NOT);
    }

    @Edge(promise = 17, says = "What is answered so changes nothing.")
    static void judgeChangesNothing() {
        Edges.changesNothing(due, x -> {
            x.judge(-1, 0);
            x.judge(6, 0);
            x.judge(0, 4);
            x.judge(0, -1);
            x.judge(1, 0);
            x.judge(2, 0);
            x.judge(3, 0);
            x.judge(0, 0);
            x.judge(5, 0);
        });
    }

    // ---- promise 18

    @Edge(promise = 18, says = "Of STORES of one (ab: 10 times him, and the one told): GIFTS: how many (what 0), "
        + "the least (1; NOT), FOR WHOM (2: bits).")
    static void numbersOfFits() {
        ShieldLine x = Towns.many(2);
        x.row(0, 0, 0);
        int[] good = {0, 1, 10, 11};
        for (int ab : good) due.is("fits(0, " + ab + ", 0)", x.fits(0, ab, 0), 10);
        int[] bad = {-1, -10, -11, 2, 9, 12, 19, 20, 21, 100, 101, LEAST, MOST, -MOST, 1 << 30};
        for (int ab : bad) {
            for (int what = 0; what <= 2; what++) due.is("fits(0, " + ab + ", " + what + ")", x.fits(0, ab, what), BAD);
        }
        int[] whats = {-1, 3, 4, LEAST, MOST};
        for (int what : whats) due.is("fits(0, 0, " + what + ")", x.fits(0, 0, what), BAD);
        ShieldLine y = Towns.many(8);
        y.row(0, 0, 0);
        due.is("fits(0, 77, 0)", y.fits(0, 77, 0), 10);
        int[] beside = {78, 87, 80, 8, 79, 770};
        for (int ab : beside) due.is("fits(0, " + ab + ", 0)", y.fits(0, ab, 0), BAD);
        due.is("fits(0, 0, 0) of nobody", new ShieldLine().fits(0, 0, 0), BAD);
    }

    @Edge(promise = 18, says = {"FOR WHOM (2: bits). BAD, -11, -12 (no ROW of bytes).", "SHELVES 0 .. 5"})
    static void refusedFits() {
        ShieldLine x = Towns.many(1);
        for (int shelf = 0; shelf <= 5; shelf++) {
            for (int what = 0; what <= 2; what++) due.is("fits(" + shelf + ", 0, " + what + ")", x.fits(shelf, 0, what), MISSING);
        }
        int[] shelves = {-1, 6, LEAST, MOST};
        for (int shelf : shelves) due.is("fits(" + shelf + ", 0, 0)", x.fits(shelf, 0, 0), BAD);
        for (int sort = 1; sort <= 4; sort++) {
            x.row(5, sort, 0);
            for (int what = 0; what <= 2; what++) due.is("fits(5, 0, " + what + ") of sort " + sort, x.fits(5, 0, what), UNLIKE);
        }
        x.body(0);
        x.keep(5, 0);
        due.is("fits(5, 0, 0) of a shield", x.fits(5, 0, 0), UNLIKE);
        x.row(5, 0, 0);
        due.is("fits(5, 0, 0) of bytes", x.fits(5, 0, 0), 10);
    }

    @Edge(promise = 18, says = "Answers, of several the one named first")
    static void badIsNamedFirstByFits() {
        ShieldLine x = Towns.many(1);
        due.is("fits(0, 1, 0) of nothing", x.fits(0, 1, 0), BAD);
        due.is("fits(0, 0, 3) of nothing", x.fits(0, 0, 3), BAD);
        x.row(0, 4, 1);
        due.is("fits(0, 10, 0) of booleans", x.fits(0, 10, 0), BAD);
        due.is("fits(0, 0, -1) of booleans", x.fits(0, 0, -1), BAD);
        due.is("fits(0, 0, 0) of booleans", x.fits(0, 0, 0), UNLIKE);
    }

    private static void fit(ShieldLine x, int ab, int store, int many, int least) {
        Due.bytes(x, 0, 20, store);
        due.is("fits(0, " + ab + ", 0) of 20, " + store, x.fits(0, ab, 0), many);
        due.is("fits(0, " + ab + ", 1) of 20, " + store, x.fits(0, ab, 1), least);
    }

    @Edge(promise = 18, says = GIFTS)
    static void givesFromZeroToNine() {
        ShieldLine x = Towns.pair();
        fit(x, 10, 16, 0, NOT);
        fit(x, 10, 17, 1, 0);
        fit(x, 10, 18, 1, 1);
        fit(x, 10, 25, 1, 8);
        fit(x, 10, 26, 1, 9);
        fit(x, 10, 27, 0, NOT);
        fit(x, 11, 21, 10, 0);
        fit(x, 11, 22, 0, NOT);
        x.mend(1, 0, 7);
        fit(x, 10, 17, 2, 0);
        fit(x, 10, 18, 1, 2);
        fit(x, 10, 25, 1, 9);
        fit(x, 10, 26, 0, NOT);
        Due.law(x, "g<3?0;g=9?0;5");
        fit(x, 10, 22, 6, 3);
        fit(x, 10, 17, 4, 0);
        due.is("GIVES stay", x.of(0, 1), 4);
    }

    @Edge(promise = 18, says = FOR_WHOM)
    static void caresForAllAndForNobody() {
        ShieldLine x = Towns.many(8);
        x.row(0, 0, 0);
        due.is("fits(0, 7, 2) of an empty row, of 7", x.fits(0, 7, 2), 127 + 256);
        due.is("fits(0, 70, 2) of an empty row, of 0", x.fits(0, 70, 2), 254 + 256);
        Due.bytes(x, 0, 20, 15);
        due.is("fits(0, 7, 2), 7 does not care for 0", x.fits(0, 7, 2), 126 + 256);
        due.is("fits(0, 0, 2), 0 himself", x.fits(0, 0, 2), 254 + 256);
        Due.bytes(x, 0, 20, 21);
        due.is("fits(0, 7, 2), 7 cares for 0", x.fits(0, 7, 2), 1);
        due.is("fits(0, 70, 2), 0 cares for 7", x.fits(0, 70, 2), 128);
        due.is("fits(0, 0, 2), 0 himself", x.fits(0, 0, 2), 0);
        Due.bytes(x, 0, 20, 22);
        due.is("fits(0, 7, 2), by none", x.fits(0, 7, 2), 0);
        x.mend(7, 4, 0);
        Due.bytes(x, 0, 20, 15);
        due.is("fits(0, 7, 2), for anybody but 0", x.fits(0, 7, 2), 126 + 256);
        due.is("CARES stay", x.of(7, 4), 0);
        due.is("fits(0, 0, 2) of one alone", alone(), 256);
    }

    private static int alone() {
        ShieldLine x = Towns.many(1);
        x.row(0, 0, 0);
        return x.fits(0, 0, 2);
    }

    @Edge(promise = 18, says = TOLD)
    static void fortyOneAtMostFit() {
        ShieldLine x = Towns.still(2);
        x.mend(1, 2, 1);
        x.mend(1, 3, 41);
        x.row(0, 0, 42);
        for (int i = 0; i < 42; i++) x.put(0, i, i == 41 ? 7 : 41 - i);
        due.is("fits(0, 11, 0), the 42nd is not so", x.fits(0, 11, 0), 10);
        due.is("fits(0, 11, 1), the 42nd is not so", x.fits(0, 11, 1), 0);
        due.is("fits(0, 10, 2), the 42nd is not so", x.fits(0, 10, 2), 256);
        x.put(0, 40, 2);
        due.is("fits(0, 11, 0), the 41st is not so", x.fits(0, 11, 0), 0);
        due.is("fits(0, 11, 1), the 41st is not so", x.fits(0, 11, 1), NOT);
        due.is("fits(0, 10, 2), the 41st is not so", x.fits(0, 10, 2), 0);
    }

    @Edge(promise = 18, says = "What is answered so changes nothing.")
    static void fitsChangesNothing() {
        Edges.changesNothing(due, x -> {
            x.fits(-1, 0, 0);
            x.fits(6, 0, 0);
            x.fits(0, -1, 0);
            x.fits(0, 4, 0);
            x.fits(0, 40, 0);
            x.fits(0, 0, 3);
            for (int what = 0; what <= 2; what++) {
                x.fits(1, 0, what);
                x.fits(2, 0, what);
                x.fits(3, 0, what);
                x.fits(0, 12, what);
                x.fits(5, 12, what);
            }
        });
    }

    // ---- promise 19

    private static void can(String row, ShieldLine x, long above, long below) {
        due.is("can(0, 0) of " + row, x.can(0, 0), above);
        due.is("can(0, 1) of " + row, x.can(0, 1), below);
    }

    @Edge(promise = 19, says = {"THE CAN (part 0 above, 1 below the line). Long.MIN_VALUE: BAD, no ROW of bytes.", "SHELVES 0 .. 5"})
    static void refusedCan() {
        ShieldLine x = new ShieldLine();
        for (int shelf = 0; shelf <= 5; shelf++) due.is("can(" + shelf + ", 0) of nothing", x.can(shelf, 0), NONE);
        for (int shelf = 0; shelf <= 5; shelf++) x.row(shelf, 0, 0);
        int[] bad = {-1, 6, LEAST, MOST};
        for (int shelf : bad) due.is("can(" + shelf + ", 0)", x.can(shelf, 0), NONE);
        int[] parts = {-1, 2, LEAST, MOST};
        for (int part : parts) due.is("can(0, " + part + ")", x.can(0, part), NONE);
        for (int shelf = 0; shelf <= 5; shelf++) due.is("can(" + shelf + ", 1)", x.can(shelf, 1), 2);
        for (int sort = 1; sort <= 4; sort++) {
            x.row(0, sort, 1);
            can("sort " + sort, x, NONE, NONE);
        }
        x.body(0);
        x.keep(0, 0);
        can("a shield", x, NONE, NONE);
        x.keep(0, -1);
        can("nothing", x, NONE, NONE);
    }

    @Edge(promise = 19, says = CAN)
    static void thirtyNightsAtMost() {
        ShieldLine x = new ShieldLine();
        long three28 = 22876792454961L;
        for (int n = 28; n <= 32; n++) {
            x.row(0, 0, n);
            for (int i = 0; i < n; i++) x.put(0, i, 1);
            long above = n == 28 ? three28 : n == 29 ? 3 * three28 : 9 * three28;
            can(n + " nights gone", x, above, above + 1);
        }
        for (int n = 29; n <= 31; n++) {
            x.row(0, 0, n);
            can(n + " nights it stood", x, 1, (n == 29 ? 3 * three28 : 9 * three28) + 1);
        }
        x.row(0, 0, 60);
        for (int i = 29; i < 60; i++) x.put(0, i, 1);
        can("29 it stood, the thirtieth gone", x, 1, three28 + 1);
    }

    @Edge(promise = 19, says = CAN)
    static void itEndsWithWhatIsNeither() {
        ShieldLine x = new ShieldLine();
        int[] neither = {2, -1, 3, 127, -128};
        for (int v : neither) {
            Due.bytes(x, 0, v, 1, 1);
            can(v + " at once", x, 1, 2);
            Due.bytes(x, 0, 1, v, 1);
            can("1, then " + v, x, 3, 4);
            Due.bytes(x, 0, 1, 1, v);
            can("1, 1, then " + v, x, 9, 10);
        }
        Due.bytes(x, 0, 0, 1, 1, 1);
        can("0, 1, 1, 1", x, 9, 10);
        Due.bytes(x, 0, 256, 257);
        can("0, 1 of the lowest bits", x, 1, 2);
    }

    @Edge(promise = 19, says = {"alike likely ahead;", "how likely somebody is there: a fraction in lowest terms."})
    static void inLowestTerms() {
        ShieldLine x = new ShieldLine();
        x.row(0, 0, 0);
        can("no night", x, 1, 2);
        Due.bytes(x, 0, 1);
        can("1", x, 3, 4);
        Due.bytes(x, 0, 0);
        can("0", x, 1, 4);
        Due.bytes(x, 0, 1, 0);
        can("1, 0", x, 1, 2);
        Due.bytes(x, 0, 0, 0, 1, 1, 1);
        can("0, 0, 1, 1, 1", x, 3, 4);
        Due.bytes(x, 0, 0, 0, 0, 1, 1);
        can("0, 0, 0, 1, 1", x, 1, 4);
        Due.bytes(x, 0, 0, 0);
        can("0, 0", x, 1, 10);
    }

    @Edge(promise = 19, says = "What is answered so changes nothing.")
    static void canChangesNothing() {
        Edges.changesNothing(due, x -> {
            for (int shelf = -1; shelf <= 6; shelf++) {
                for (int part = -1; part <= 2; part++) x.can(shelf, part);
            }
        });
    }

    // ---- promise 20

    @Edge(promise = 20, says = {"v (0 .. 9999) is shared", "PAID. BAD."})
    static void whatIsShared() {
        ShieldLine x = Towns.pair();
        int[] bad = {-1, 10000, LEAST, MOST};
        for (int v : bad) {
            due.is("paid(0, " + v + ")", x.paid(0, v), BAD);
            due.is("paid(1, " + v + ")", x.paid(1, v), BAD);
        }
        int[] good = {0, 1, 9998, 9999};
        for (int v : good) {
            due.is("paid(0, " + v + ")", x.paid(0, v), v);
            due.is("paid(1, " + v + ")", x.paid(1, v), 0);
        }
        int[] ones = {-1, 2, LEAST, MOST};
        for (int one : ones) due.is("paid(" + one + ", 1)", x.paid(one, 1), BAD);
        due.is("paid(0, 1) of nobody", new ShieldLine().paid(0, 1), BAD);
        due.is("paid(7, 1) of eight", Towns.many(8).paid(7, 1), 0);
        due.is("paid(8, 1) of eight", Towns.many(8).paid(8, 1), BAD);
    }

    @Edge(promise = 20, says = PAID)
    static void forWhomNobodyElseDoes() {
        ShieldLine x = Towns.many(4);
        due.is("paid(0, 12), none cares", x.paid(0, 12), 0);
        x.mend(0, 4, 3);
        due.is("paid(0, 12), he alone cares for 3", x.paid(0, 12), 12);
        x.mend(1, 4, 3);
        due.is("paid(0, 12), another cares for 3", x.paid(0, 12), 0);
        due.is("paid(1, 12), another cares for 3", x.paid(1, 12), 0);
        x.mend(2, 4, 3);
        due.is("paid(0, 12), two others care for 3", x.paid(0, 12), 0);
        x.mend(3, 4, 0);
        due.is("paid(3, 12), who cares for 0", x.paid(3, 12), 12);
        x.mend(1, 4, 2);
        x.mend(2, 4, 1);
        due.is("paid(0, 12), each for one", x.paid(0, 12), 3);
        due.is("paid(3, 12), each for one", x.paid(3, 12), 3);
    }

    @Edge(promise = 20, says = PAID)
    static void sharedAndCut() {
        ShieldLine x = Towns.chain(8);
        for (int i = 0; i < 8; i++) x.mend(i, 1, 9);
        due.is("paid(0, 9999): 9 of 63", x.paid(0, 9999), 1428);
        due.is("paid(6, 9999): 9 of 63", x.paid(6, 9999), 1428);
        due.is("paid(7, 9999), for nobody", x.paid(7, 9999), 0);
        due.is("paid(0, 6): 6 by 7", x.paid(0, 6), 0);
        due.is("paid(0, 7): 7 by 7", x.paid(0, 7), 1);
        due.is("paid(0, 13): 13 by 7", x.paid(0, 13), 1);
        due.is("paid(0, 14): 14 by 7", x.paid(0, 14), 2);
    }

    @Edge(promise = 20, says = PAID)
    static void noGiftsTogether() {
        ShieldLine x = Towns.chain(3);
        for (int i = 0; i < 3; i++) x.mend(i, 1, 0);
        due.is("paid(0, 9999), 0 of 0", x.paid(0, 9999), 0);
        x.mend(1, 1, 1);
        due.is("paid(0, 9999), 0 of 1", x.paid(0, 9999), 0);
        due.is("paid(1, 9999), 1 of 1", x.paid(1, 9999), 9999);
        x.mend(1, 1, 0);
        x.mend(2, 1, 9);
        due.is("paid(0, 9999), 2's nine do not count", x.paid(0, 9999), 0);
        due.is("paid(2, 9999), for nobody", x.paid(2, 9999), 0);
    }

    @Edge(promise = 20, says = "What is answered so changes nothing.")
    static void paidChangesNothing() {
        Edges.changesNothing(due, x -> {
            x.paid(-1, 1);
            x.paid(4, 1);
            x.paid(0, -1);
            x.paid(0, 10000);
            x.paid(0, 9999);
        });
    }

    // ---- promise 21

    private static void turns(String town, ShieldLine x, int nt, int lack, int first) {
        due.is("byTurns(" + nt + ", 0), " + town, x.byTurns(nt, 0), lack);
        due.is("byTurns(" + nt + ", 1), " + town, x.byTurns(nt, 1), first);
    }

    @Edge(promise = 21, says = {"n (1 .. 3) deeds in all", "t (0 .. 6) days pass",
        "BY TURNS (nt: 10 n, and t): how many LACK (what 0), his first (1). BAD."})
    static void deedsAndDays() {
        ShieldLine x = Towns.many(2);
        int[] bad = {-1, 0, 6, 9, 17, 18, 19, 27, 29, 37, 39, 40, 46, -10, -11, -16, 110, LEAST, MOST};
        for (int nt : bad) {
            due.is("byTurns(" + nt + ", 0)", x.byTurns(nt, 0), BAD);
            due.is("byTurns(" + nt + ", 1)", x.byTurns(nt, 1), BAD);
        }
        int[] good = {10, 20, 30};
        for (int nt : good) turns("two with 20", x, nt, 0, NOTHING);
        int[] whats = {-1, 2, LEAST, MOST};
        for (int what : whats) due.is("byTurns(10, " + what + ")", x.byTurns(10, what), BAD);
        turns("nobody", new ShieldLine(), 10, 0, NOTHING);
        turns("nobody", new ShieldLine(), 36, 0, NOTHING);
    }

    @Edge(promise = 21, says = "behind them t (0 .. 6) days pass")
    static void zeroToSixDays() {
        ShieldLine x = Towns.many(1);
        for (int t = 0; t <= 6; t++) {
            x.mend(0, 3, 5 * t + 1);
            turns("one is left", x, 10 + t, 0, NOTHING);
            x.mend(0, 3, 5 * t);
            turns("none is left", x, 10 + t, 1, NOTHING);
            x.mend(0, 3, 5 * t + 6);
            turns("the wind takes 5, one is left", x, 20 + t, 0, NOTHING);
            turns("the wind takes 5, one is left", x, 30 + t, 0, NOTHING);
            x.mend(0, 3, 5 * t + 5);
            turns("the wind takes 5, none is left", x, 20 + t, 1, NOTHING);
            turns("the wind takes 5, none is left", x, 30 + t, 1, NOTHING);
        }
    }

    /** One needy has 8, and the wind takes 9 from whom nobody cares for: he lacks, but by care. All others have 60. */
    private static ShieldLine windy(int n, int needy, int... whom) {
        ShieldLine x = Towns.many(n);
        x.mend(0, 5, 9);
        for (int i = 0; i < n; i++) {
            x.mend(i, 3, i == needy ? 8 : 60);
            x.mend(i, 4, whom[i]);
        }
        return x;
    }

    @Edge(promise = 21, says = DEEDS)
    static void theNextNumber() {
        turns("2 from 1 to 2 is himself, so 3", windy(4, 3, 1, 0, 1, 0), 11, 0, 2);
        turns("0 from 1 to 2", windy(4, 2, 1, 0, 0, 0), 11, 0, 0);
        turns("behind the last: 2 from 3 to 0", windy(4, 0, 1, 2, 3, 1), 11, 0, 2);
        turns("from nobody: 2 to 0", windy(4, 0, 1, 2, -1, 1), 11, 0, 2);
        turns("himself is passed over: 0 from nobody to 1", windy(4, 1, -1, 2, 3, 2), 11, 0, 0);
        turns("himself is passed over behind the last: 3 from 2 to 0", windy(4, 0, 1, 2, 1, 2), 11, 0, 3);
        turns("two alone: 1 from 0 to 0 again", windy(2, 1, -1, 0), 11, 0, 0);
        turns("nobody comes to 0", windy(4, 0, 1, 2, 1, 1), 11, 1, NOTHING);
        turns("eight: 7 from 6 to 0", windy(8, 0, 1, 2, 3, 4, 5, 6, 1, 6), 11, 0, 7);
        turns("eight: 6 from 7 to 0", windy(8, 0, 1, 2, 3, 4, 5, 6, 7, 1), 11, 0, 6);
    }

    @Edge(promise = 21, says = DEEDS)
    static void oneWhoIsAlone() {
        ShieldLine x = Towns.many(1);
        x.mend(0, 3, 5);
        turns("alone with 5", x, 11, 1, NOTHING);
        turns("alone with 5", x, 31, 1, NOTHING);
        x.mend(0, 3, 6);
        turns("alone with 6", x, 11, 0, NOTHING);
        due.is("CARES stay", x.of(0, 4), -1);
        ShieldLine y = Towns.many(2);
        for (int i = 0; i < 2; i++) y.mend(i, 3, 5);
        turns("two with 5: 0 cares for 1", y, 11, 1, 0);
    }

    @Edge(promise = 21, says = "the wind takes 5 from STORE of one (0 at least), or nothing;")
    static void theWindTakesFive() {
        ShieldLine x = Towns.many(2);
        x.mend(1, 3, 6);
        turns("6 less 5", x, 20, 0, NOTHING);
        x.mend(1, 3, 5);
        turns("5 less 5", x, 20, 1, NOTHING);
        x.mend(1, 3, 4);
        turns("4 less 5", x, 20, 1, NOTHING);
        x.mend(1, 3, 0);
        turns("0 lacks already, 20 less 5", x, 20, 1, NOTHING);
        x.mend(0, 3, 3);
        turns("0 at 1, and 0's three", x, 20, 2, NOTHING);
        ShieldLine y = Towns.pair();
        y.mend(0, 3, 50);
        y.mend(1, 3, 3);
        turns("3 less 5 is 0, and 4 less 3 come", y, 21, 0, NOTHING);
        y.mend(1, 2, 4);
        turns("3 less 5 is 0, and 4 less 4 come", y, 21, 1, NOTHING);
    }

    @Edge(promise = 21, says = "he wants fewest to LACK, the wind most: that, if both do their best; his first "
        + "(8: nothing; of like ones nothing first, then the least).")
    static void ofLikeDeedsTheFirst() {
        ShieldLine x = Towns.many(3);
        for (int i = 0; i < 3; i++) x.mend(i, 3, 5);
        turns("each could care for one: the least", x, 11, 2, 0);
        x.mend(0, 3, 50);
        turns("0 cares for 1, and 2 lacks", x, 11, 1, 0);
        x.mend(1, 3, 50);
        turns("0 to 1 does not help 2, 1 and 2 do not come to 2", x, 11, 1, NOTHING);
        x.mend(2, 3, 50);
        turns("nobody would lack", x, 11, 0, NOTHING);
        turns("nobody can be helped", windy(2, 0, 1, 0), 11, 0, NOTHING);
        turns("1 cares for 2 now, for 0 then; so does 2 from nobody", windy(3, 0, -1, 2, -1), 11, 0, 1);
    }

    @Edge(promise = 21, says = {"n (1 .. 3) deeds in all, the mathematician first:"})
    static void oneTwoThreeDeeds() {
        ShieldLine x = Towns.many(2);
        for (int i = 0; i < 2; i++) x.mend(i, 3, 8);
        turns("his deed", x, 12, 1, 0);
        turns("his, and the wind's", x, 22, 1, 0);
        turns("his, the wind's, and his", x, 32, 0, 0);
        ShieldLine y = Towns.many(1);
        y.mend(0, 3, 5);
        turns("his alone", y, 10, 0, NOTHING);
        turns("the wind's, too", y, 20, 1, NOTHING);
        turns("the wind's only once", y, 30, 1, NOTHING);
        y.mend(0, 3, 6);
        turns("the wind's only once", y, 30, 0, NOTHING);
    }

    @Edge(promise = 21, says = {"n (1 .. 3) deeds in all", "t (0 .. 6) days pass", "his first (8: nothing;"})
    static void hisFirstAtTheMost() {
        ShieldLine x = Towns.many(2);
        turns("0 cares for 1, and lacks", x, 16, 1, 0);
        turns("0 cares for 1, and lacks", x, 26, 1, 0);
        turns("0 and 1 care for one another", x, 36, 0, 0);
        turns("0 and 1 care for one another", x, 34, 0, 0);
        turns("his deed behind the wind's is enough", x, 33, 0, NOTHING);
        ShieldLine y = windy(8, 0, 1, 2, 3, 4, 5, 6, 1, 6);
        turns("7 is the only one who helps", y, 11, 0, 7);
        for (int i = 0; i < 8; i++) y.mend(i, 3, 0);
        y.mend(7, 3, 5);
        turns("seven lack, and the wind takes five from 7", y, 20, 8, NOTHING);
        y.mend(7, 3, 6);
        turns("seven lack, and the wind takes five from 7", y, 20, 7, NOTHING);
        y.mend(7, 3, 0);
        turns("eight lack", y, 36, 8, NOTHING);
    }

    @Edge(promise = 21, says = {"What is answered so changes nothing.", "IN THOUGHT"})
    static void byTurnsChangesNothing() {
        Edges.changesNothing(due, x -> {
            x.byTurns(9, 0);
            x.byTurns(17, 0);
            x.byTurns(40, 0);
            x.byTurns(10, 2);
            x.byTurns(36, 0);
            x.byTurns(36, 1);
        });
    }

    // ---- promise 22

    /** z as an int without a sign, in a long: of the people each loses by it what is drawn. */
    private static long next(long z) {
        return (z * 1103515245L + 12345L) & 0xFFFFFFFFL;
    }

    /** STORE of one of n who have 99 and need nothing, behind winters, all together. */
    private static int left(int seed, int people, int one, int winters, int days) {
        long z = seed & 0xFFFFFFFFL;
        int sum = 0;
        for (int winter = 0; winter < winters; winter++) {
            int store = 99;
            for (int day = 0; day < days; day++) {
                z = next(z);
                if ((z >> 8) % people == one) store = Math.max(0, store - (int) ((z >> 16) % 10));
            }
            sum += store;
        }
        return sum;
    }

    private static ShieldLine rich(int n) {
        ShieldLine x = Towns.still(n);
        for (int i = 0; i < n; i++) x.mend(i, 3, 99);
        return x;
    }

    @Edge(promise = 22, says = {DRAWN, "DRAWN (nm: 100 n and m): how many LACK (one -1), STORE of one. BAD."})
    static void wintersAndDays() {
        ShieldLine x = rich(8);
        int[] bad = {-1, -101, 0, 1, 40, 41, 99, 100, 141, 142, 199, 200, 241, 3000, 3041, 3100, 3101, 3140, 10101, LEAST, MOST};
        for (int nm : bad) {
            due.is("drawn(7, " + nm + ", -1)", x.drawn(7, nm, -1), BAD);
            due.is("drawn(7, " + nm + ", 0)", x.drawn(7, nm, 0), BAD);
        }
        int[] winters = {1, 2, 29, 30};
        int[] days = {1, 2, 39, 40};
        for (int n : winters) {
            for (int m : days) {
                for (int one = 0; one < 8; one += 7) {
                    due.is("drawn(7, " + (100 * n + m) + ", " + one + ")", x.drawn(7, 100 * n + m, one), left(7, 8, one, n, m));
                }
            }
        }
    }

    @Edge(promise = 22, says = {"how many LACK at the ends, all together; STORE of a told one."})
    static void allTogether() {
        ShieldLine x = Towns.many(8);
        for (int i = 0; i < 8; i++) x.mend(i, 3, 0);
        due.is("drawn(1, 101, -1)", x.drawn(1, 101, -1), 8);
        due.is("drawn(1, 2940, -1)", x.drawn(1, 2940, -1), 8 * 29);
        due.is("drawn(1, 3040, -1)", x.drawn(1, 3040, -1), 8 * 30);
        due.is("drawn(1, 3040, 7)", x.drawn(1, 3040, 7), 0);
        int[] bad = {-2, 8, 9, LEAST, MOST};
        for (int one : bad) due.is("drawn(1, 101, " + one + ")", x.drawn(1, 101, one), BAD);
        ShieldLine y = new ShieldLine();
        due.is("drawn(1, 101, -1) of nobody", y.drawn(1, 101, -1), 0);
        due.is("drawn(1, 3040, -1) of nobody", y.drawn(1, 3040, -1), 0);
        due.is("drawn(1, 101, 0) of nobody", y.drawn(1, 101, 0), BAD);
        due.is("drawn(1, 100, -1) of nobody", y.drawn(1, 100, -1), BAD);
    }

    @Edge(promise = 22, says = "z = z * 1103515245 + 12345 (an int; SEED at first) ahead of each day")
    static void seedsThatWrap() {
        int[] seeds = {0, 1, 2, -1, MOST, LEAST, MOST - 1, LEAST + 1, 1 << 16, 1 << 30};
        for (int people = 1; people <= 8; people++) {
            ShieldLine x = rich(people);
            for (int seed : seeds) {
                for (int m = 1; m <= 3; m++) {
                    int one = people - 1;
                    due.is("drawn(" + seed + ", " + (300 + m) + ", " + one + ") of " + people,
                        x.drawn(seed, 300 + m, one), left(seed, people, one, 3, m));
                }
            }
        }
    }

    @Edge(promise = 22, says = "from STORE of the (z >>> 8) % how many-th goes (z >>> 16) % 10 (0 at least); then the day passes")
    static void zeroAtLeast() {
        int below = 0;
        int just = 0;
        for (int seed = 0; seed < 60; seed++) {
            long z = next(seed);
            int loss = (int) ((z >> 16) % 10);
            if ((z >> 8) % 2 != 1 || loss == 0) continue;
            ShieldLine x = Towns.pair();
            for (int less = -1; less <= 1; less++) {
                int store = loss + less;
                x.mend(1, 3, store);
                due.is("drawn(" + seed + ", 101, 1), from " + store + " goes " + loss + ", then 4 less 3 come",
                    x.drawn(seed, 101, 1), Math.max(0, less) + 1);
                below += less < 0 ? 1 : 0;
                just += less == 0 ? 1 : 0;
            }
        }
        due.is("there were such seeds", below > 5 && just > 5 ? 1 : 0, 1);
    }

    @Edge(promise = 22, says = {"goes (z >>> 16) % 10 (0 at least); then the day passes", "has STORE above 0"})
    static void whoLosesAllGivesNothing() {
        int such = 0;
        for (int seed = 0; seed < 60; seed++) {
            long z = next(seed);
            int loss = (int) ((z >> 16) % 10);
            if ((z >> 8) % 2 != 0 || loss == 0) continue;
            ShieldLine x = Towns.pair();
            x.mend(0, 3, loss);
            due.is("drawn(" + seed + ", 101, 1), 0 loses all", x.drawn(seed, 101, 1), 17);
            x.mend(0, 3, loss + 1);
            due.is("drawn(" + seed + ", 101, 1), 0 has one left", x.drawn(seed, 101, 1), 21);
            such++;
        }
        due.is("there were such seeds", such > 5 ? 1 : 0, 1);
    }

    @Edge(promise = 22, says = {DRAWN, "DAY is one more (99 stays)."})
    static void eachWinterIsFromNow() {
        ShieldLine x = Towns.still(2);
        x.mend(0, 4, 1);
        x.mend(0, 3, 99);
        x.mend(1, 3, 0);
        x.mend(0, 6, 98);
        Due.law(x, "t-90");
        int seed = 0;
        while ((next(seed) >> 16) % 10 != 0) seed++;
        due.is("drawn(" + seed + ", 101, 1), nothing is lost", x.drawn(seed, 101, 1), 8);
        int[] lost = new int[3];
        long z = seed;
        for (int i = 0; i < 3; i++) {
            z = next(z);
            lost[i] = (z >> 8) % 2 == 1 ? (int) ((z >> 16) % 10) : 0;
        }
        due.is("drawn(" + seed + ", 201, 1), two winters of a day", x.drawn(seed, 201, 1), 16);
        due.is("drawn(" + seed + ", 301, 1), three winters of a day", x.drawn(seed, 301, 1), 24);
        due.is("drawn(" + seed + ", 103, 1), DAY 98, 99, 99", x.drawn(seed, 103, 1),
            Math.max(0, Math.max(0, 8 - lost[1]) + 9 - lost[2]) + 9);
        due.is("DAY stays", x.of(0, 6), 98);
    }

    @Edge(promise = 22, says = {"What is answered so changes nothing.", "IN THOUGHT"})
    static void drawnChangesNothing() {
        Edges.changesNothing(due, x -> {
            x.drawn(1, 100, -1);
            x.drawn(1, 3101, -1);
            x.drawn(1, 101, -2);
            x.drawn(1, 101, 4);
            x.drawn(1, 3040, -1);
            x.drawn(1, 3040, 0);
        });
    }

    public static void main(String[] args) throws Exception {
        Edges.run(StoresEdgeTest.class, due);
    }
}
