/** Promises 9 to 16: each sentence of the document that names a boundary, at it and just beside it. */
public final class ThoughtEdgeTest {
    private static final Due due = new Due();
    private static final int BAD = -1, NOT = -2;
    private static final int LEAST = Integer.MIN_VALUE, MOST = Integer.MAX_VALUE;
    private static final String DAY = "A DAY, all as they stand when it begins: to STORE of each comes what comes "
        + "from each who cares for him and has STORE above 0; NEEDS goes from it; from one for whom nobody cares "
        + "WIND, too (all within 0 .. 99 at once).";
    private static final String END = "END: whom one comes to by CARES, who cares for nobody (himself, if he does); "
        + "NOT: it goes round.";
    private static final String RING = "RING: how many are in the ring one is in; NOT.";
    private static final String ROUND = "the one by which fewest LACK behind n (0 .. 6) days, then STORE of all is "
        + "most: how many; STORE of all; for whom one cares in it (of like ones the first by what 0, 1, 2 .. care "
        + "for); NOT.";
    private static final String GONE = "GONE: how many LACK behind n (0 .. 12) days, if one were gone (who cared for "
        + "him cares for nobody; he does not count); which one leaves most that LACK (of like ones the least; NOT: "
        + "nobody is there).";

    /** One alone, who needs 1 a day, without wind. */
    private static ShieldLine oneADay(int store) {
        ShieldLine x = Towns.still(1);
        x.mend(0, 2, 1);
        x.mend(0, 3, store);
        return x;
    }

    /** All care for one another in one ring, 0 for 1, 1 for 2 .. */
    private static ShieldLine ring(int n) {
        ShieldLine x = Towns.chain(n);
        x.mend(n - 1, 4, 0);
        return x;
    }

    // ---- promise 9

    @Edge(promise = 9, says = {"IN THOUGHT, behind n (0 .. 40) days: STORE of one", "Behind n days STORE of one (one -1: of all). BAD."})
    static void daysOfLater() {
        ShieldLine x = oneADay(41);
        int[] bad = {-1, 41, 42, LEAST, MOST};
        for (int n : bad) {
            due.is("later(" + n + ", 0)", x.later(n, 0), BAD);
            due.is("later(" + n + ", -1)", x.later(n, -1), BAD);
        }
        int[] days = {0, 1, 2, 39, 40};
        for (int n : days) {
            due.is("later(" + n + ", 0)", x.later(n, 0), 41 - n);
            due.is("later(" + n + ", -1)", x.later(n, -1), 41 - n);
        }
    }

    @Edge(promise = 9, says = {"STORE of all.", "(one -1: of all). BAD."})
    static void onesOfLater() {
        ShieldLine x = Towns.many(8);
        x.mend(7, 3, 99);
        int[] bad = {-2, 8, 9, LEAST, MOST};
        for (int one : bad) due.is("later(0, " + one + ")", x.later(0, one), BAD);
        due.is("later(0, 0)", x.later(0, 0), 20);
        due.is("later(0, 7)", x.later(0, 7), 99);
        due.is("later(0, -1)", x.later(0, -1), 7 * 20 + 99);
        due.is("later(1, -1)", x.later(1, -1), 7 * 15 + 94);
        due.is("later(0, 1) of one", Towns.many(1).later(0, 1), BAD);
        ShieldLine y = new ShieldLine();
        due.is("later(0, -1) of nobody", y.later(0, -1), 0);
        due.is("later(40, -1) of nobody", y.later(40, -1), 0);
        due.is("later(0, 0) of nobody", y.later(0, 0), BAD);
    }

    @Edge(promise = 9, says = DAY)
    static void whoHasStoreAboveZeroGives() {
        ShieldLine x = Towns.pair();
        x.mend(0, 3, 0);
        due.is("STORE of 1, 0 has nothing", x.later(1, 1), 17);
        x.mend(0, 3, 1);
        due.is("STORE of 1, 0 has one", x.later(1, 1), 21);
        due.is("STORE of 0, who had one", x.later(1, 0), 0);
        due.is("STORE of 1 behind two days, 0 has nothing by then", x.later(2, 1), 18);
    }

    @Edge(promise = 9, says = DAY)
    static void asTheyStandWhenItBegins() {
        ShieldLine x = Towns.chain(3);
        x.mend(1, 3, 0);
        due.is("STORE of 1", x.later(1, 1), 1);
        due.is("STORE of 2, 1 began with nothing", x.later(1, 2), 17);
        due.is("STORE of 2, 1 began the next day with one", x.later(2, 2), 18);
        ShieldLine y = ring(2);
        y.mend(0, 2, 0);
        y.mend(1, 2, 0);
        y.mend(0, 3, 40);
        Due.law(y, "s/4");
        due.is("STORE of 0: 40 and 20 / 4", y.later(1, 0), 45);
        due.is("STORE of 1: 20 and 40 / 4", y.later(1, 1), 30);
        due.is("STORE of 0: 45 and 30 / 4", y.later(2, 0), 52);
        due.is("STORE of 1: 30 and 45 / 4", y.later(2, 1), 41);
    }

    @Edge(promise = 9, says = DAY)
    static void theWindTakesFromWhomNobodyCaresFor() {
        ShieldLine x = Towns.pair();
        int[] winds = {0, 1, 9};
        for (int wind : winds) {
            x.mend(0, 5, wind);
            due.is("STORE of 0, WIND " + wind, x.later(1, 0), 17 - wind);
            due.is("STORE of 1, WIND " + wind, x.later(1, 1), 21);
        }
        x.mend(0, 1, 0);
        due.is("STORE of 1, cared for without a gift", x.later(1, 1), 17);
        x.mend(0, 3, 0);
        due.is("STORE of 1, cared for by one who has nothing", x.later(1, 1), 17);
        x.mend(0, 4, -1);
        due.is("STORE of 1, for whom nobody cares", x.later(1, 1), 8);
    }

    @Edge(promise = 9, says = DAY)
    static void allAtOnce() {
        int[][] days = {{0, 3, 1}, {0, 4, 0}, {0, 5, 0}, {1, 5, 0}, {2, 5, 1}, {5, 9, 0}, {6, 9, 1}, {97, 3, 98},
            {98, 3, 99}, {99, 3, 99}, {95, 0, 99}, {96, 0, 99}, {94, 0, 98}, {99, 4, 99}, {99, 5, 98}, {99, 9, 94}};
        for (int[] day : days) {
            ShieldLine x = Towns.pair();
            x.mend(1, 3, day[0]);
            x.mend(1, 2, day[1]);
            due.is("STORE of 1, who has " + day[0] + " and needs " + day[1], x.later(1, 1), day[2]);
        }
        ShieldLine y = Towns.many(1);
        for (int store = 0; store <= 7; store++) {
            y.mend(0, 3, store);
            due.is("STORE of 0, from " + store + " go 3 and 2", y.later(1, 0), Math.max(0, store - 5));
        }
        ShieldLine z = Towns.many(8);
        for (int i = 0; i < 7; i++) z.mend(i, 4, 7);
        Due.law(z, "20");
        z.mend(7, 3, 0);
        due.is("STORE of 7, to whom 140 come", z.later(1, 7), 99);
        Due.law(z, "14");
        due.is("STORE of 7, to whom 98 come", z.later(1, 7), 95);
    }

    @Edge(promise = 9, says = "DAY is one more (99 stays).")
    static void dayNinetyNineStays() {
        ShieldLine x = Towns.still(2);
        x.mend(0, 4, 1);
        Due.law(x, "t-90");
        int[][] days = {{97, 0, 7, 15, 24, 33}, {98, 0, 8, 17, 26, 35}, {99, 0, 9, 18, 27, 36}};
        for (int[] d : days) {
            x.mend(0, 6, d[0]);
            for (int n = 0; n <= 4; n++) due.is("later(" + n + ", 1) from DAY " + d[0], x.later(n, 1), 20 + d[n + 1]);
        }
    }

    @Edge(promise = 9, says = {"PEOPLE 0 .. 7, as they come: PLACE, GIVES", "NEEDS", "STORE", "CARES"})
    static void theLastOfEightInThought() {
        ShieldLine x = Towns.many(8);
        x.mend(7, 0, 35);
        x.mend(7, 1, 9);
        x.mend(7, 2, 1);
        x.mend(7, 3, 50);
        x.mend(7, 4, 0);
        x.mend(0, 4, 7);
        x.mend(0, 1, 8);
        due.is("STORE of 0, to whom 9 less 10 by 2 come", x.later(1, 0), 21);
        due.is("STORE of 7, to whom 8 less 10 by 2 come", x.later(1, 7), 52);
        due.is("STORE of 6", x.later(1, 6), 15);
    }

    @Edge(promise = 9, says = {"What is answered so changes nothing.", "IN THOUGHT"})
    static void laterChangesNothing() {
        Edges.changesNothing(due, x -> {
            x.later(-1, 0);
            x.later(41, 0);
            x.later(0, -2);
            x.later(0, 4);
            x.later(40, 0);
            x.later(40, -1);
        });
    }

    // ---- promise 10

    @Edge(promise = 10, says = {"n (0 .. 40) days", "Behind n days which LACK: bits. BAD."})
    static void daysOfLacking() {
        ShieldLine x = oneADay(40);
        int[] bad = {-1, 41, 42, LEAST, MOST};
        for (int n : bad) due.is("lacking(" + n + ")", x.lacking(n), BAD);
        due.is("lacking(0)", x.lacking(0), 0);
        due.is("lacking(39)", x.lacking(39), 0);
        due.is("lacking(40)", x.lacking(40), 1);
        x.mend(0, 3, 41);
        due.is("lacking(40), one more", x.lacking(40), 0);
    }

    @Edge(promise = 10, says = "One LACKS, if STORE is 0.")
    static void storeZeroAndOne() {
        ShieldLine x = Towns.many(8);
        due.is("lacking(0)", x.lacking(0), 0);
        x.mend(0, 3, 0);
        x.mend(1, 3, 1);
        due.is("lacking(0), 0 has nothing, 1 has one", x.lacking(0), 1);
        x.mend(7, 3, 0);
        due.is("lacking(0), 7 has nothing, too", x.lacking(0), 129);
        x.mend(2, 3, 5);
        x.mend(3, 3, 6);
        x.mend(4, 3, 4);
        due.is("lacking(1): 0, 1, 2, 4, 7", x.lacking(1), 1 + 2 + 4 + 16 + 128);
        due.is("lacking(2): 3, too", x.lacking(2), 1 + 2 + 4 + 8 + 16 + 128);
        due.is("lacking(3)", x.lacking(3), 1 + 2 + 4 + 8 + 16 + 128);
        due.is("lacking(4)", x.lacking(4), 255);
        due.is("lacking(0) of nobody", new ShieldLine().lacking(0), 0);
        due.is("lacking(40) of nobody", new ShieldLine().lacking(40), 0);
    }

    @Edge(promise = 10, says = {"What is answered so changes nothing.", "IN THOUGHT"})
    static void lackingChangesNothing() {
        Edges.changesNothing(due, x -> {
            x.lacking(-1);
            x.lacking(41);
            x.lacking(40);
        });
    }

    // ---- promise 11

    @Edge(promise = 11, says = {"FIRST: behind how many days (0 .. 40) one first LACKS; NOT."})
    static void firstWithinFortyDays() {
        int[] stores = {0, 1, 2, 39, 40, 41, 42, 99};
        int[] want = {0, 1, 2, 39, 40, NOT, NOT, NOT};
        for (int i = 0; i < stores.length; i++) {
            due.is("first(0), STORE " + stores[i], oneADay(stores[i]).first(0), want[i]);
            due.is("first(-1), STORE " + stores[i], oneADay(stores[i]).first(-1), want[i] == NOT ? NOT : 0);
        }
    }

    @Edge(promise = 11, says = "one first LACKS")
    static void firstOfSeveralTimes() {
        ShieldLine x = Towns.pair();
        x.mend(1, 3, 0);
        due.is("first(1), who lacks now, not tomorrow", x.first(1), 0);
        x.mend(1, 3, 1);
        due.is("first(1): behind four days 0 has nothing; 5 less 3, 2, nothing", x.first(1), 6);
        due.is("first(0)", x.first(0), 4);
    }

    @Edge(promise = 11, says = "WHO FIRST: who LACKS first of all (of like ones the least; NOT).")
    static void whoFirst() {
        ShieldLine x = Towns.still(8);
        due.is("first(-1), nobody ever", x.first(-1), NOT);
        x.mend(7, 2, 1);
        due.is("first(-1), 7 behind twenty days", x.first(-1), 7);
        x.mend(5, 2, 1);
        due.is("first(-1), 5 and 7 alike", x.first(-1), 5);
        x.mend(7, 3, 19);
        due.is("first(-1), 7 one day ahead of 5", x.first(-1), 7);
        x.mend(0, 2, 1);
        x.mend(0, 3, 19);
        due.is("first(-1), 0 and 7 alike", x.first(-1), 0);
        x.mend(3, 3, 0);
        due.is("first(-1), 3 now", x.first(-1), 3);
        due.is("first(-1) of nobody", new ShieldLine().first(-1), NOT);
    }

    @Edge(promise = 11, says = {"FIRST (one -1: WHO FIRST). BAD; NOT."})
    static void onesOfFirst() {
        ShieldLine x = Towns.many(8);
        int[] bad = {-2, 8, 9, LEAST, MOST};
        for (int one : bad) due.is("first(" + one + ")", x.first(one), BAD);
        due.is("first(0)", x.first(0), 4);
        due.is("first(7)", x.first(7), 4);
        due.is("first(0) of nobody", new ShieldLine().first(0), BAD);
    }

    @Edge(promise = 11, says = {"What is answered so changes nothing.", "IN THOUGHT"})
    static void firstChangesNothing() {
        Edges.changesNothing(due, x -> {
            x.first(-2);
            x.first(4);
            x.first(3);
            x.first(-1);
        });
    }

    // ---- promise 12

    @Edge(promise = 12, says = {END, "END (what 0; NOT)"})
    static void endOfAChain() {
        ShieldLine x = Towns.chain(8);
        for (int one = 0; one < 8; one++) due.is("care(" + one + ", 0) in a chain of eight", x.care(one, 0), 7);
        due.is("care(0, 0), himself", Towns.many(1).care(0, 0), 0);
        due.is("care(1, 0), himself", Towns.pair().care(1, 0), 1);
        due.is("care(0, 0), the next one", Towns.pair().care(0, 0), 1);
    }

    @Edge(promise = 12, says = {END, "END (what 0; NOT)"})
    static void endOfWhatGoesRound() {
        ShieldLine x = Towns.chain(8);
        x.mend(7, 4, 0);
        for (int one = 0; one < 8; one++) due.is("care(" + one + ", 0) in a ring of eight", x.care(one, 0), NOT);
        x.mend(7, 4, 6);
        for (int one = 0; one < 8; one++) due.is("care(" + one + ", 0), 6 and 7 go round", x.care(one, 0), NOT);
        x.mend(7, 4, -1);
        x.mend(1, 4, 0);
        due.is("care(0, 0), 0 and 1 go round", x.care(0, 0), NOT);
        due.is("care(2, 0), which do not", x.care(2, 0), 7);
    }

    @Edge(promise = 12, says = {RING, "RING (1; NOT)"})
    static void rings() {
        for (int n = 2; n <= 8; n++) {
            due.is("care(0, 1) in a ring of " + n, ring(n).care(0, 1), n);
            due.is("care(" + (n - 1) + ", 1) in a ring of " + n, ring(n).care(n - 1, 1), n);
        }
        due.is("care(0, 1) alone", Towns.many(1).care(0, 1), NOT);
        due.is("care(0, 1) in a chain", Towns.chain(8).care(0, 1), NOT);
        due.is("care(7, 1) at its end", Towns.chain(8).care(7, 1), NOT);
    }

    @Edge(promise = 12, says = {RING, "RING (1; NOT)"})
    static void outsideARing() {
        ShieldLine x = Towns.chain(8);
        x.mend(7, 4, 6);
        due.is("care(6, 1)", x.care(6, 1), 2);
        due.is("care(7, 1)", x.care(7, 1), 2);
        for (int one = 0; one < 6; one++) due.is("care(" + one + ", 1), ahead of the ring", x.care(one, 1), NOT);
        x.mend(7, 4, 1);
        due.is("care(0, 1), ahead of a ring of seven", x.care(0, 1), NOT);
        due.is("care(1, 1), in it", x.care(1, 1), 7);
    }

    @Edge(promise = 12, says = {"END (what 0; NOT), RING (1; NOT). BAD."})
    static void refusedCare() {
        ShieldLine x = Towns.many(8);
        int[] bad = {-1, 2, 3, LEAST, MOST};
        for (int what : bad) due.is("care(0, " + what + ")", x.care(0, what), BAD);
        int[] ones = {-1, 8, -2, LEAST, MOST};
        for (int one : ones) {
            due.is("care(" + one + ", 0)", x.care(one, 0), BAD);
            due.is("care(" + one + ", 1)", x.care(one, 1), BAD);
        }
        due.is("care(7, 0)", x.care(7, 0), 7);
        due.is("care(7, 1)", x.care(7, 1), NOT);
        due.is("care(0, 0) of nobody", new ShieldLine().care(0, 0), BAD);
        due.is("care(0, 1) of nobody", new ShieldLine().care(0, 1), BAD);
    }

    @Edge(promise = 12, says = "What is answered so changes nothing.")
    static void careChangesNothing() {
        Edges.changesNothing(due, x -> {
            x.care(4, 0);
            x.care(-1, 1);
            x.care(0, 2);
            x.care(0, 0);
            x.care(2, 1);
        });
    }

    // ---- promise 13

    @Edge(promise = 13, says = {"NOBODY: for whom nobody cares (bits)", "NOBODY (what 0: bits)"})
    static void forWhomNobodyCares() {
        due.is("cared(0) of nobody", new ShieldLine().cared(0), 0);
        due.is("cared(0) of one", Towns.many(1).cared(0), 1);
        due.is("cared(0) of eight", Towns.many(8).cared(0), 255);
        due.is("cared(0) in a chain", Towns.chain(8).cared(0), 1);
        due.is("cared(0) in a ring", ring(8).cared(0), 0);
        ShieldLine x = Towns.many(8);
        x.mend(0, 4, 7);
        due.is("cared(0), one cares for 7", x.cared(0), 127);
        x.mend(0, 3, 0);
        due.is("cared(0), though he has nothing", x.cared(0), 127);
    }

    @Edge(promise = 13, says = {"TWO: for whom two or more do (bits).", "TWO (1: bits)"})
    static void forWhomTwoCare() {
        due.is("cared(1) of nobody", new ShieldLine().cared(1), 0);
        ShieldLine x = Towns.many(8);
        int[] want = {0, 1, 1, 1, 1, 1, 1};
        for (int i = 1; i < 8; i++) {
            x.mend(i, 4, 0);
            due.is("cared(1), " + i + " care for 0", x.cared(1), want[i - 1]);
        }
        ShieldLine y = ring(8);
        due.is("cared(1) in a ring", y.cared(1), 0);
        y.mend(0, 4, 7);
        due.is("cared(1), 0 and 6 care for 7", y.cared(1), 128);
        due.is("cared(0), and nobody for 1", y.cared(0), 2);
    }

    @Edge(promise = 13, says = {"NOBODY (what 0: bits), TWO (1: bits). BAD."})
    static void refusedCared() {
        ShieldLine x = Towns.many(2);
        int[] bad = {-1, 2, 3, LEAST, MOST};
        for (int what : bad) due.is("cared(" + what + ")", x.cared(what), BAD);
        due.is("cared(0)", x.cared(0), 3);
        due.is("cared(1)", x.cared(1), 0);
        Edges.changesNothing(due, y -> {
            y.cared(-1);
            y.cared(2);
            y.cared(0);
            y.cared(1);
        });
    }

    // ---- promise 14

    @Edge(promise = 14, says = {"(two of PEOPLE at least)", "BAD; NOT."})
    static void twoAtLeast() {
        ShieldLine x = new ShieldLine();
        due.is("round(0, -1) of nobody", x.round(0, -1), NOT);
        due.is("round(6, -2) of nobody", x.round(6, -2), NOT);
        due.is("round(0, 0) of nobody", x.round(0, 0), BAD);
        x.person(0);
        due.is("round(0, -1) of one", x.round(0, -1), NOT);
        due.is("round(6, -2) of one", x.round(6, -2), NOT);
        due.is("round(0, 0) of one", x.round(0, 0), NOT);
        due.is("round(0, 1) of one", x.round(0, 1), BAD);
        due.is("round(7, -1) of one", x.round(7, -1), BAD);
        due.is("round(-1, 0) of one", x.round(-1, 0), BAD);
        x.person(0);
        due.is("round(0, -1) of two", x.round(0, -1), 0);
        due.is("round(0, -2) of two", x.round(0, -2), 40);
        due.is("round(0, 0) of two", x.round(0, 0), 1);
        due.is("round(0, 1) of two", x.round(0, 1), 0);
    }

    @Edge(promise = 14, says = {ROUND, "how many LACK (one -1), STORE of all (-2), for whom one cares. BAD"})
    static void daysOfARound() {
        ShieldLine x = Towns.many(2);
        int[] bad = {-1, 7, 8, LEAST, MOST};
        for (int n : bad) {
            for (int one = -2; one < 2; one++) due.is("round(" + n + ", " + one + ")", x.round(n, one), BAD);
        }
        for (int n = 0; n <= 6; n++) due.is("round(" + n + ", -2)", x.round(n, -2), 40 + 2 * n);
        for (int i = 0; i < 2; i++) x.mend(i, 2, 7);
        for (int i = 0; i < 2; i++) x.mend(i, 3, 18);
        due.is("round(5, -1), three have gone five times from 18", x.round(5, -1), 0);
        due.is("round(5, -2)", x.round(5, -2), 6);
        due.is("round(6, -1)", x.round(6, -1), 2);
        due.is("round(6, -2)", x.round(6, -2), 0);
    }

    @Edge(promise = 14, says = "how many LACK (one -1), STORE of all (-2), for whom one cares. BAD")
    static void onesOfARound() {
        ShieldLine x = Towns.many(8);
        int[] bad = {-3, 8, 9, LEAST, MOST};
        for (int one : bad) due.is("round(0, " + one + ")", x.round(0, one), BAD);
        due.is("round(0, -2)", x.round(0, -2), 160);
        due.is("round(0, -1)", x.round(0, -1), 0);
        due.is("round(0, 0)", x.round(0, 0), 1);
        due.is("round(0, 7)", x.round(0, 7), 0);
        due.is("round(0, 2) of two", Towns.many(2).round(0, 2), BAD);
    }

    @Edge(promise = 14, says = ROUND)
    static void ofLikeRoundsTheFirst() {
        for (int n = 2; n <= 8; n++) {
            ShieldLine x = Towns.many(n);
            for (int one = 0; one < n; one++) {
                due.is("round(1, " + one + ") of " + n, x.round(1, one), (one + 1) % n);
            }
        }
        ShieldLine y = ring(4);
        y.mend(0, 4, 3);
        y.mend(3, 4, 1);
        due.is("round(0, 0), whatever CARES are", y.round(0, 0), 1);
        due.is("round(0, 3), whatever CARES are", y.round(0, 3), 0);
    }

    /** By 0, 1, 2 nobody lacks, but 1's gift is lost above 99; by 0, 2, 1 all have more, and 1 lacks. */
    @Edge(promise = 14, says = ROUND)
    static void fewestLackAheadOfMostStore() {
        ShieldLine x = Towns.many(3);
        x.mend(0, 1, 2);
        x.mend(1, 1, 9);
        x.mend(1, 3, 2);
        x.mend(2, 1, 1);
        x.mend(2, 2, 0);
        x.mend(2, 3, 99);
        due.is("round(1, -1)", x.round(1, -1), 0);
        due.is("round(1, -2): 18, 1, 99", x.round(1, -2), 118);
        due.is("round(1, 0)", x.round(1, 0), 1);
        x.mend(1, 3, 3);
        due.is("round(1, -1), 1 has one more", x.round(1, -1), 0);
        due.is("round(1, -2): 26, 1, 99", x.round(1, -2), 126);
        due.is("round(1, 0), 1 has one more", x.round(1, 0), 2);
        x.mend(1, 3, 1);
        due.is("round(1, -1), 1 lacks by both", x.round(1, -1), 1);
        due.is("round(1, -2): 26, 0, 99", x.round(1, -2), 125);
        due.is("round(1, 0), 1 lacks by both", x.round(1, 0), 2);
    }

    @Edge(promise = 14, says = {DAY, ROUND})
    static void aDayOfARound() {
        ShieldLine x = Towns.many(2);
        x.mend(0, 3, 0);
        due.is("round(1, -2), 0 gives nothing: 1 and 17", x.round(1, -2), 18);
        due.is("round(2, -2), then 4: 2 and 18", x.round(2, -2), 20);
        x.mend(0, 3, 1);
        due.is("round(1, -2), 0 has one: 2 and 21", x.round(1, -2), 23);
        x.mend(0, 3, 99);
        x.mend(1, 3, 2);
        x.mend(1, 2, 5);
        due.is("round(1, -2), all at once: 99 and 1", x.round(1, -2), 100);
        x.mend(1, 3, 1);
        due.is("round(1, -2), one less: 99 and 0", x.round(1, -2), 99);
        due.is("round(1, -1), one less", x.round(1, -1), 1);
        x.mend(0, 3, 97);
        due.is("round(1, -2): 98 and 0", x.round(1, -2), 98);
        x.mend(0, 5, 9);
        due.is("round(1, -2), the wind takes nothing in a ring", x.round(1, -2), 98);
    }

    @Edge(promise = 14, says = {"DAY is one more (99 stays).", ROUND})
    static void dayNinetyNineStaysInARound() {
        ShieldLine x = Towns.still(2);
        Due.law(x, "t-90");
        int[][] days = {{97, 0, 7, 15, 24, 33}, {98, 0, 8, 17, 26, 35}, {99, 0, 9, 18, 27, 36}};
        for (int[] d : days) {
            x.mend(0, 6, d[0]);
            for (int n = 0; n <= 4; n++) {
                due.is("round(" + n + ", -2) from DAY " + d[0], x.round(n, -2), 40 + 2 * d[n + 1]);
            }
        }
    }

    /** 3 has 1 and needs 9: only what 7 gives helps him. */
    @Edge(promise = 14, says = {ROUND, "PEOPLE 0 .. 7"})
    static void theLastOfEightInARound() {
        ShieldLine x = Towns.many(8);
        x.mend(7, 1, 9);
        x.mend(3, 2, 9);
        x.mend(3, 3, 1);
        due.is("round(1, -1)", x.round(1, -1), 0);
        due.is("round(1, -2): 141 and 37 less 30", x.round(1, -2), 148);
        int[] ring = {1, 2, 4, 0, 5, 6, 7, 3};
        for (int one = 0; one < 8; one++) due.is("round(1, " + one + ")", x.round(1, one), ring[one]);
        x.mend(7, 1, 8);
        due.is("round(1, -1), 8 are not enough", x.round(1, -1), 1);
    }

    @Edge(promise = 14, says = ROUND)
    static void allOfEightLack() {
        ShieldLine x = Towns.many(8);
        for (int i = 0; i < 8; i++) x.mend(i, 3, 0);
        for (int n = 0; n <= 6; n += 6) {
            due.is("round(" + n + ", -1)", x.round(n, -1), 8);
            due.is("round(" + n + ", -2)", x.round(n, -2), 0);
            for (int one = 0; one < 8; one++) due.is("round(" + n + ", " + one + ")", x.round(n, one), (one + 1) % 8);
        }
        x.mend(7, 3, 1);
        due.is("round(0, -1), 7 has one", x.round(0, -1), 7);
        due.is("round(0, -2), 7 has one", x.round(0, -2), 1);
    }

    @Edge(promise = 14, says = "ROUND: all care for one another in one ring")
    static void aRoundOfWhatIsNow() {
        ShieldLine x = Towns.many(2);
        due.is("round(1, -2) of two", x.round(1, -2), 42);
        x.person(0);
        due.is("round(1, -2) of three", x.round(1, -2), 63);
        Due.bytes(x, 0, 0, 4, 3);
        x.people(0, 0, 1);
        due.is("round(1, -2) of four", x.round(1, -2), 84);
        x.day();
        due.is("round(1, -2) behind a day", x.round(1, -2), 64);
        Due.law(x, "9");
        due.is("round(1, -2) by a law", x.round(1, -2), 84);
        Due.law(x, "9)");
        due.is("round(1, -2) behind a fault", x.round(1, -2), 84);
        x.mend(3, 3, 99);
        due.is("round(1, -2) behind a change", x.round(1, -2), 3 * 21 + 99);
        x.undo();
        due.is("round(1, -2) undone", x.round(1, -2), 84);
        x.redo();
        x.gives(3, 0, 99);
        due.is("round(1, -2) behind a gift: 3 gives nothing, to 0", x.round(1, -2), 96 + 21 + 21 + 6);
        x.image();
        x.gives(0, 3, 99);
        due.is("round(0, 0), all care", x.round(0, 0), 1);
        x.back();
        due.is("round(0, -2) laid back", x.round(0, -2), 99 + 15 + 15);
    }

    @Edge(promise = 14, says = "all care for one another in one ring")
    static void namesOfARound() {
        ShieldLine x = Towns.many(8);
        Due.law(x, "k");
        due.is("round(1, -2), one cares for each", x.round(1, -2), 8 * 18);
        Due.law(x, "s=20?5;1");
        due.is("round(2, -2): 5, then 1", x.round(2, -2), 8 * 20);
        Due.law(x, "20");
        due.is("round(6, -2), held at 99", x.round(6, -2), 8 * 99);
        Due.law(x, "0");
        due.is("round(6, -2)", x.round(6, -2), 8 * 2);
    }

    @Edge(promise = 14, says = {"What is answered so changes nothing.", "IN THOUGHT"})
    static void roundChangesNothing() {
        Edges.changesNothing(due, x -> {
            x.round(-1, 0);
            x.round(7, 0);
            x.round(0, -3);
            x.round(0, 4);
            x.round(6, -1);
        });
    }

    // ---- promise 15

    @Edge(promise = 15, says = "NOT (it can't be).")
    static void itCannotBeForOne() {
        ShieldLine x = new ShieldLine();
        due.is("mended(-1) of nobody", x.mended(-1), 0);
        due.is("mended(0) of nobody", x.mended(0), BAD);
        x.person(0);
        due.is("mended(-1) of one", x.mended(-1), NOT);
        due.is("mended(0) of one", x.mended(0), NOT);
        due.is("mended(1) of one", x.mended(1), BAD);
        x.person(0);
        due.is("mended(-1) of two", x.mended(-1), 2);
        due.is("mended(0) of two", x.mended(0), 1);
        due.is("mended(1) of two", x.mended(1), 0);
    }

    @Edge(promise = 15, says = "MENDED: how many (one -1), for whom one cares. BAD; NOT.")
    static void onesOfMended() {
        ShieldLine x = Towns.many(8);
        int[] bad = {-2, 8, 9, LEAST, MOST};
        for (int one : bad) due.is("mended(" + one + ")", x.mended(one), BAD);
        due.is("mended(-1)", x.mended(-1), 8);
        due.is("mended(7)", x.mended(7), 6);
    }

    @Edge(promise = 15, says = "the fewest whose CARES become others so that each of PEOPLE is cared for by just one, and cares for one")
    static void fewestBecomeOthers() {
        ShieldLine x = ring(8);
        due.is("mended(-1) of a ring", x.mended(-1), 0);
        due.is("mended(7) of a ring", x.mended(7), 0);
        x.mend(7, 4, -1);
        due.is("mended(-1) of a chain", x.mended(-1), 1);
        due.is("mended(7) of a chain", x.mended(7), 0);
        x.mend(7, 4, 1);
        due.is("mended(-1), 1 is cared for by two: 7 becomes another", x.mended(-1), 1);
        due.is("mended(7)", x.mended(7), 0);
        ShieldLine y = Towns.many(4);
        for (int i = 0; i < 4; i++) y.mend(i, 4, i ^ 1);
        due.is("mended(-1) of two rings", y.mended(-1), 0);
        due.is("mended(2) of two rings", y.mended(2), 3);
        y.mend(3, 4, 1);
        due.is("mended(-1), 1 is cared for by 0 and 3", y.mended(-1), 1);
        due.is("mended(3)", y.mended(3), 2);
        ShieldLine z = Towns.many(3);
        z.mend(0, 4, 1);
        z.mend(1, 4, 0);
        due.is("mended(-1), a ring of two and one alone: no ring of one", z.mended(-1), 2);
    }

    @Edge(promise = 15, says = "for whom one then cares (of like ones the first by 0, 1, 2 ..)")
    static void ofLikeOnesTheFirst() {
        ShieldLine x = Towns.many(8);
        for (int one = 0; one < 8; one++) due.is("mended(" + one + ") of eight", x.mended(one), one ^ 1);
        ShieldLine y = Towns.many(3);
        int[] ring = {1, 2, 0};
        for (int one = 0; one < 3; one++) due.is("mended(" + one + ") of three", y.mended(one), ring[one]);
        y.mend(0, 4, 2);
        due.is("mended(-1), 0 cares for 2", y.mended(-1), 2);
        int[] other = {2, 0, 1};
        for (int one = 0; one < 3; one++) due.is("mended(" + one + "), 0 cares for 2", y.mended(one), other[one]);
        y.mend(1, 4, 2);
        due.is("mended(-1), 1 cares for 2, too", y.mended(-1), 2);
        for (int one = 0; one < 3; one++) due.is("mended(" + one + "), the first of both", y.mended(one), ring[one]);
    }

    @Edge(promise = 15, says = {"What is answered so changes nothing.", "IN THOUGHT"})
    static void mendedChangesNothing() {
        Edges.changesNothing(due, x -> {
            x.mended(-2);
            x.mended(4);
            x.mended(-1);
            x.mended(0);
        });
    }

    // ---- promise 16

    @Edge(promise = 16, says = GONE)
    static void daysOfGone() {
        ShieldLine x = Towns.many(2);
        for (int i = 0; i < 2; i++) x.mend(i, 3, 60);
        int[] bad = {-1, 13, 14, LEAST, MOST};
        for (int n : bad) {
            due.is("gone(" + n + ", 0)", x.gone(n, 0), BAD);
            due.is("gone(" + n + ", -1)", x.gone(n, -1), BAD);
        }
        due.is("gone(0, 0)", x.gone(0, 0), 0);
        due.is("gone(11, 0)", x.gone(11, 0), 0);
        due.is("gone(12, 0), 60 have gone", x.gone(12, 0), 1);
        x.mend(1, 3, 61);
        due.is("gone(12, 0), one is left", x.gone(12, 0), 0);
        due.is("gone(12, -1), so 1 leaves most", x.gone(12, -1), 1);
        due.is("gone(11, -1)", x.gone(11, -1), 0);
    }

    @Edge(promise = 16, says = {GONE, "which one leaves most (one -1; NOT). BAD."})
    static void onesOfGone() {
        ShieldLine x = Towns.many(8);
        int[] bad = {-2, 8, 9, LEAST, MOST};
        for (int one : bad) due.is("gone(0, " + one + ")", x.gone(0, one), BAD);
        due.is("gone(4, 7)", x.gone(4, 7), 7);
        due.is("gone(3, 7)", x.gone(3, 7), 0);
        ShieldLine y = new ShieldLine();
        due.is("gone(0, -1) of nobody", y.gone(0, -1), NOT);
        due.is("gone(12, -1) of nobody", y.gone(12, -1), NOT);
        due.is("gone(13, -1) of nobody", y.gone(13, -1), BAD);
        due.is("gone(0, 0) of nobody", y.gone(0, 0), BAD);
        due.is("gone(12, 0) of one", Towns.many(1).gone(12, 0), 0);
        due.is("gone(12, -1) of one", Towns.many(1).gone(12, -1), 0);
    }

    @Edge(promise = 16, says = GONE)
    static void heDoesNotCount() {
        ShieldLine x = Towns.many(3);
        x.mend(0, 3, 0);
        x.mend(1, 3, 0);
        due.is("gone(0, 0), who lacks", x.gone(0, 0), 1);
        due.is("gone(0, 1), who lacks", x.gone(0, 1), 1);
        due.is("gone(0, 2), who does not", x.gone(0, 2), 2);
        due.is("gone(0, -1)", x.gone(0, -1), 2);
    }

    @Edge(promise = 16, says = GONE)
    static void whoCaredForHimCaresForNobody() {
        ShieldLine x = Towns.chain(3);
        x.mend(2, 3, 5);
        due.is("gone(1, 1): from 2 go 3 and 2", x.gone(1, 1), 1);
        due.is("gone(1, 0): 1 cares for 2 still", x.gone(1, 0), 0);
        x.mend(2, 3, 6);
        due.is("gone(1, 1), one more", x.gone(1, 1), 0);
        Due.law(x, "k*0");
        x.mend(2, 3, 4);
        x.mend(0, 4, 2);
        due.is("gone(1, 0), 1 keeps the wind off 2", x.gone(1, 0), 0);
        due.is("gone(1, 1), 0 keeps the wind off 2", x.gone(1, 1), 0);
        x.mend(0, 4, 1);
        due.is("gone(1, 1), 0 cared for him, for nobody then", x.gone(1, 1), 1);
        Due.law(x, "k=2?9");
        x.mend(0, 4, 2);
        x.mend(2, 3, 3);
        due.is("gone(1, 0), one cares for 2 then", x.gone(1, 0), 1);
        due.is("lacking(1), two do", x.lacking(1), 0);
    }

    @Edge(promise = 16, says = "which one leaves most that LACK (of like ones the least;")
    static void ofLikeOnesTheLeastIsGone() {
        ShieldLine x = Towns.many(8);
        due.is("gone(0, -1), nobody lacks", x.gone(0, -1), 0);
        due.is("gone(12, -1), all others lack", x.gone(12, -1), 0);
        for (int i = 0; i < 6; i++) x.mend(i, 3, 0);
        due.is("gone(0, -1): 6 and 7 leave six", x.gone(0, -1), 6);
        x.mend(6, 3, 0);
        due.is("gone(0, -1): 7 leaves seven", x.gone(0, -1), 7);
    }

    @Edge(promise = 16, says = {"What is answered so changes nothing.", "IN THOUGHT"})
    static void goneChangesNothing() {
        Edges.changesNothing(due, x -> {
            x.gone(-1, 0);
            x.gone(13, 0);
            x.gone(0, -2);
            x.gone(0, 4);
            x.gone(12, 0);
            x.gone(12, -1);
        });
    }

    public static void main(String[] args) throws Exception {
        Edges.run(ThoughtEdgeTest.class, due);
    }
}
