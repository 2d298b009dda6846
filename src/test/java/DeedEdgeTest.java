/** Promises 23 to 30: each sentence of the document that names a boundary, at it and just beside it. */
public final class DeedEdgeTest {
    private static final Due due = new Due();
    private static final int BAD = -1, STATE = -5, VOID = -2000000000;
    private static final int LEAST = Integer.MIN_VALUE, MOST = Integer.MAX_VALUE;
    private static final String DAY = "A DAY, all as they stand when it begins: to STORE of each comes what comes "
        + "from each who cares for him and has STORE above 0; NEEDS goes from it; from one for whom nobody cares "
        + "WIND, too (all within 0 .. 99 at once).";
    private static final String CHANGES = "CHANGES (all numbers of mend(); telling the same number is none) can be "
        + "UNDONE, the latest first, and DONE AGAIN (as long as no other came behind); 40 at most are kept; deeds "
        + "are none (STORE, CARES, DAY by them, too).";
    private static final String IMAGE = "AN IMAGE keeps STORE, CARES, DAY, what LED tells (laid back, CHANGES stay as they are).";

    private static void led(String when, ShieldLine x, int... want) {
        for (int what = 0; what < want.length; what++) due.is("led(" + what + ") " + when, x.led(what), want[what]);
    }

    // ---- promise 23

    @Edge(promise = 23, says = {DAY, "A DAY passes: how many LACK then."})
    static void whoHasStoreAboveZeroGivesInDeed() {
        ShieldLine x = Towns.chain(3);
        x.mend(0, 3, 1);
        x.mend(1, 3, 0);
        due.is("day(): 0 lacks", x.day(), 1);
        due.is("STORE of 0, who had one", x.of(0, 3), 0);
        due.is("STORE of 1, to whom 4 came from one", x.of(1, 3), 1);
        due.is("STORE of 2, to whom nothing came", x.of(2, 3), 17);
        due.is("day(): 0 and 1 lack", x.day(), 2);
        due.is("STORE of 1, to whom nothing came", x.of(1, 3), 0);
        due.is("STORE of 2, to whom 4 came", x.of(2, 3), 18);
    }

    @Edge(promise = 23, says = DAY)
    static void allAtOnceInDeed() {
        int[][] days = {{0, 3, 1}, {0, 4, 0}, {0, 5, 0}, {1, 5, 0}, {2, 5, 1}, {97, 3, 98}, {98, 3, 99}, {99, 3, 99}, {99, 9, 94}};
        for (int[] day : days) {
            ShieldLine x = Towns.pair();
            x.mend(1, 3, day[0]);
            x.mend(1, 2, day[1]);
            due.is("day(), 1 has " + day[0] + " and needs " + day[1], x.day(), day[2] == 0 ? 1 : 0);
            due.is("STORE of 1, who had " + day[0] + " and needs " + day[1], x.of(1, 3), day[2]);
            due.is("STORE of 0", x.of(0, 3), 15);
        }
        ShieldLine y = Towns.many(1);
        for (int store = 7; store >= 0; store--) {
            y.mend(0, 3, store);
            due.is("day(), 0 has " + store, y.day(), store <= 5 ? 1 : 0);
            due.is("STORE of 0, who had " + store, y.of(0, 3), Math.max(0, store - 5));
        }
    }

    @Edge(promise = 23, says = DAY)
    static void theWindInDeed() {
        for (int wind = 0; wind <= 9; wind += 9) {
            ShieldLine x = Towns.chain(2);
            x.mend(0, 5, wind);
            x.mend(0, 3, 0);
            x.person(0);
            x.day();
            due.is("STORE of 1, for whom one who has nothing cares, WIND " + wind, x.of(1, 3), 17);
            due.is("STORE of 2, for whom nobody cares, WIND " + wind, x.of(2, 3), 17 - wind);
        }
    }

    @Edge(promise = 23, says = "DAY is one more (99 stays).")
    static void dayNinetyNineStaysInDeed() {
        ShieldLine x = Towns.many(1);
        int[] days = {0, 1, 97, 98, 99};
        for (int day : days) {
            x.mend(0, 6, day);
            x.day();
            due.is("DAY behind " + day, x.of(0, 6), Math.min(99, day + 1));
        }
        x.day();
        due.is("DAY behind 99 again", x.of(0, 6), 99);
        due.is("days led go on", x.led(0), 6);
        x.mend(0, 6, 98);
        x.day();
        x.day();
        due.is("DAY behind 98, 99", x.of(0, 6), 99);
    }

    @Edge(promise = 23, says = {"how many LACK then.", "One LACKS, if STORE is 0."})
    static void howManyLackThen() {
        due.is("day() of nobody", new ShieldLine().day(), 0);
        ShieldLine x = Towns.many(8);
        for (int i = 0; i < 8; i++) x.mend(i, 3, 5 + i);
        due.is("day(): 0 alone", x.day(), 1);
        for (int i = 0; i < 8; i++) x.mend(i, 3, i % 2 == 0 ? 5 : 6);
        due.is("day(): four", x.day(), 4);
        due.is("day(): all", x.day(), 8);
        ShieldLine y = Towns.pair();
        y.mend(1, 3, 0);
        due.is("day(): 1 lacks no more", y.day(), 0);
    }

    // ---- promise 24

    @Edge(promise = 24, says = {"One CARES for another one (-1: for nobody) from now on: for whom he did. VOID: BAD.",
        "one CARES for another one (or for nobody)", "PEOPLE 0 .. 7"})
    static void whomOneCaresFor() {
        ShieldLine x = Towns.many(8);
        int[] bad = {-2, 8, 9, 3, LEAST, MOST};
        for (int whom : bad) due.is("cares(3, " + whom + ")", x.cares(3, whom), VOID);
        int[] ones = {-1, 8, 9, LEAST, MOST};
        for (int one : ones) {
            due.is("cares(" + one + ", 0)", x.cares(one, 0), VOID);
            due.is("cares(" + one + ", -1)", x.cares(one, -1), VOID);
        }
        int[] good = {0, 7, 2, 4, -1, -1, 7};
        int was = -1;
        for (int whom : good) {
            due.is("cares(3, " + whom + ")", x.cares(3, whom), was);
            due.is("of(3, 4)", x.of(3, 4), whom);
            was = whom;
        }
        due.is("cares(0, 0), himself", x.cares(0, 0), VOID);
        due.is("cares(0, 1)", x.cares(0, 1), -1);
        due.is("cares(7, 7), himself", x.cares(7, 7), VOID);
        due.is("cares(7, 0)", x.cares(7, 0), -1);
        due.is("cares(0, 1) of one", Towns.many(1).cares(0, 1), VOID);
        due.is("cares(0, -1) of one", Towns.many(1).cares(0, -1), -1);
        due.is("cares(0, -1) of nobody", new ShieldLine().cares(0, -1), VOID);
    }

    @Edge(promise = 24, says = "deeds are none (STORE, CARES, DAY by them, too)")
    static void toldCaresAreNoChange() {
        ShieldLine x = Towns.many(2);
        x.cares(0, 1);
        due.is("count(3)", x.count(3), 0);
        due.is("undo()", x.undo(), STATE);
        due.is("CARES", x.of(0, 4), 1);
        x.mend(0, 4, -1);
        due.is("count(3) behind mend()", x.count(3), 1);
    }

    @Edge(promise = 24, says = "What is answered so changes nothing.")
    static void refusedCaresChangeNothing() {
        Edges.changesNothing(due, x -> {
            x.cares(0, 0);
            x.cares(0, -2);
            x.cares(0, 4);
            x.cares(4, 0);
            x.cares(-1, 0);
        });
    }

    // ---- promise 25

    @Edge(promise = 25, says = {"One gives v (1 .. 99) of his STORE to another one", "his STORE then. BAD"})
    static void whatOneGives() {
        ShieldLine x = Towns.many(8);
        x.mend(0, 3, 99);
        int[] bad = {0, 100, -1, 101, LEAST, MOST};
        for (int v : bad) due.is("gives(0, 7, " + v + ")", x.gives(0, 7, v), BAD);
        due.is("gives(0, 7, 1)", x.gives(0, 7, 1), 98);
        due.is("STORE of 7", x.of(7, 3), 21);
        x.mend(0, 3, 99);
        x.mend(7, 3, 0);
        due.is("gives(0, 7, 99)", x.gives(0, 7, 99), 0);
        due.is("STORE of 7", x.of(7, 3), 99);
        due.is("gives(7, 0, 98)", x.gives(7, 0, 98), 1);
        due.is("STORE of 0", x.of(0, 3), 98);
        int[] ones = {-1, 8, 9, LEAST, MOST};
        for (int one : ones) {
            due.is("gives(" + one + ", 1, 1)", x.gives(one, 1, 1), BAD);
            due.is("gives(1, " + one + ", 1)", x.gives(1, one, 1), BAD);
        }
        due.is("gives(1, 1, 1), to himself", x.gives(1, 1, 1), BAD);
        due.is("gives(1, 2, 1), to another one", x.gives(1, 2, 1), 19);
        due.is("gives(0, 1, 1) of one", Towns.many(1).gives(0, 1, 1), BAD);
    }

    @Edge(promise = 25, says = "STATE: he has not so much.")
    static void heHasNotSoMuch() {
        ShieldLine x = Towns.many(2);
        due.is("gives(0, 1, 21) of 20", x.gives(0, 1, 21), STATE);
        due.is("gives(0, 1, 99) of 20", x.gives(0, 1, 99), STATE);
        due.is("gives(0, 1, 19) of 20", x.gives(0, 1, 19), 1);
        due.is("gives(0, 1, 2) of 1", x.gives(0, 1, 2), STATE);
        due.is("gives(0, 1, 1) of 1", x.gives(0, 1, 1), 0);
        due.is("gives(0, 1, 1) of 0", x.gives(0, 1, 1), STATE);
        due.is("STORE of 1", x.of(1, 3), 40);
        due.is("gives(1, 0, 40) of 40", x.gives(1, 0, 40), 0);
        due.is("STORE of 0", x.of(0, 3), 40);
    }

    @Edge(promise = 25, says = "Answers, of several the one named first")
    static void badIsNamedAheadOfState() {
        ShieldLine x = Towns.many(2);
        due.is("gives(0, 1, 100) of 20", x.gives(0, 1, 100), BAD);
        due.is("gives(0, 0, 99) of 20", x.gives(0, 0, 99), BAD);
        due.is("gives(0, 2, 99) of 20", x.gives(0, 2, 99), BAD);
        due.is("gives(0, 1, 99) of 20", x.gives(0, 1, 99), STATE);
        x.mend(0, 3, 0);
        due.is("gives(0, 1, 0) of 0", x.gives(0, 1, 0), BAD);
        due.is("gives(0, 1, 1) of 0", x.gives(0, 1, 1), STATE);
    }

    @Edge(promise = 25, says = "(99 at most there; what is above is lost)")
    static void ninetyNineAtMostThere() {
        int[][] gifts = {{97, 1, 98}, {98, 1, 99}, {99, 1, 99}, {98, 2, 99}, {79, 20, 99}, {79, 21, 99}, {78, 20, 98}, {0, 20, 20}};
        for (int[] gift : gifts) {
            ShieldLine x = Towns.many(2);
            x.mend(0, 3, 50);
            x.mend(1, 3, gift[0]);
            due.is("gives(0, 1, " + gift[1] + ")", x.gives(0, 1, gift[1]), 50 - gift[1]);
            due.is("STORE of 1, who had " + gift[0], x.of(1, 3), gift[2]);
            due.is("led(3), as told", x.led(3), gift[1]);
        }
    }

    @Edge(promise = 25, says = "deeds are none (STORE, CARES, DAY by them, too)")
    static void givenStoreIsNoChange() {
        ShieldLine x = Towns.many(2);
        x.gives(0, 1, 5);
        due.is("count(3)", x.count(3), 0);
        due.is("undo()", x.undo(), STATE);
        due.is("STORE of 0", x.of(0, 3), 15);
    }

    @Edge(promise = 25, says = "What is answered so changes nothing.")
    static void refusedGivesChangeNothing() {
        Edges.changesNothing(due, x -> {
            x.gives(0, 1, 0);
            x.gives(0, 1, 100);
            x.gives(0, 1, 99);
            x.gives(0, 0, 1);
            x.gives(0, 4, 1);
            x.gives(4, 0, 1);
            x.gives(-1, 0, 1);
            x.gives(0, -1, 1);
        });
    }

    // ---- promise 26

    @Edge(promise = 26, says = "LED: days (what 0), what came (1), cares told (2), given (3: as told), who came to LACK (4). BAD.")
    static void whatIsLed() {
        ShieldLine x = new ShieldLine();
        int[] bad = {-1, 5, 6, LEAST, MOST};
        for (int what : bad) due.is("led(" + what + ")", x.led(what), BAD);
        led("at first", x, 0, 0, 0, 0, 0);
        x.day();
        led("behind a day of nobody", x, 1, 0, 0, 0, 0);
        for (int what : bad) due.is("led(" + what + ")", x.led(what), BAD);
    }

    @Edge(promise = 26, says = {"LED: days, what came (by THE LAW), cares told, given (as told, lost or not)", "(99 stays)"})
    static void whatCameThoughItIsLost() {
        ShieldLine x = Towns.pair();
        x.mend(1, 3, 99);
        x.day();
        led("4 came to one who has 99", x, 1, 4);
        x.mend(0, 3, 0);
        x.day();
        led("nothing came from one who has nothing", x, 2, 4);
        x.mend(0, 3, 1);
        Due.law(x, "99");
        x.day();
        led("20 came by a law", x, 3, 24);
        x.mend(0, 3, 1);
        x.mend(0, 4, -1);
        x.day();
        led("nothing came to nobody", x, 4, 24);
        x.mend(0, 6, 99);
        x.day();
        led("behind DAY 99", x, 5, 24);
        x.mend(1, 3, 99);
        x.gives(1, 0, 99);
        x.gives(0, 1, 1);
        led("99 and 1 given", x, 5, 24, 0, 100);
        x.mend(1, 3, 99);
        x.gives(0, 1, 98);
        led("98 given and lost", x, 5, 24, 0, 198);
        x.gives(0, 1, 1);
        x.gives(1, 0, 100);
        led("what is refused is not given", x, 5, 24, 0, 198);
    }

    @Edge(promise = 26, says = {"cares told", "cares told (2)"})
    static void caresAreLedAsTold() {
        ShieldLine x = Towns.many(2);
        x.mend(0, 4, 1);
        led("mend() tells no cares", x, 0, 0, 0);
        x.cares(0, 1);
        led("the same told", x, 0, 0, 1);
        x.cares(0, -1);
        x.cares(0, -1);
        led("nobody, told twice", x, 0, 0, 3);
        x.cares(0, 0);
        x.cares(2, 0);
        led("what is refused is not told", x, 0, 0, 3);
        x.undo();
        x.redo();
        led("undo() and redo() tell none", x, 0, 0, 3);
    }

    @Edge(promise = 26, says = "who came to LACK (each that did not ahead of a day, and does behind it)")
    static void whoCameToLack() {
        ShieldLine x = Towns.many(3);
        x.mend(0, 3, 0);
        x.mend(1, 3, 5);
        x.mend(2, 3, 6);
        x.day();
        due.is("led(4): 0 did ahead, 1 did not, 2 does not", x.led(4), 1);
        x.day();
        due.is("led(4): 2, too", x.led(4), 2);
        x.day();
        due.is("led(4): all did ahead", x.led(4), 2);
        x.mend(0, 3, 1);
        x.day();
        due.is("led(4): 0 came to it again", x.led(4), 3);
        x.mend(0, 3, 10);
        x.mend(1, 3, 10);
        x.gives(0, 1, 10);
        due.is("led(4): by a gift, not by a day", x.led(4), 3);
        x.day();
        due.is("led(4): 0 lacked ahead of the day", x.led(4), 3);
        x.cares(1, 0);
        x.mend(1, 3, 5);
        due.is("day(): 0 came out, 1 came in, 2 still", x.day(), 2);
        due.is("led(4): 1, too", x.led(4), 4);
        due.is("STORE of 0", x.of(0, 3), 1);
    }

    // ---- promise 27

    @Edge(promise = 27, says = {"AN IMAGE is kept: days.", "DAY (0 .. 99; 0 at first)"})
    static void daysOfAnImage() {
        ShieldLine x = Towns.many(1);
        due.is("image() at first", x.image(), 0);
        x.mend(0, 6, 99);
        due.is("image(), no day has passed", x.image(), 0);
        x.day();
        due.is("image(), one has", x.image(), 1);
        x.day();
        x.day();
        due.is("image(), three have", x.image(), 3);
        due.is("image() of nobody", new ShieldLine().image(), 0);
    }

    @Edge(promise = 27, says = "AN IMAGE is kept: days.")
    static void theLatestImageIsKept() {
        ShieldLine x = Towns.many(1);
        x.image();
        x.day();
        x.image();
        x.day();
        due.is("back()", x.back(), 1);
        due.is("STORE", x.of(0, 3), 15);
        due.is("DAY", x.of(0, 6), 1);
    }

    // ---- promise 28

    @Edge(promise = 28, says = "STATE: there is none.")
    static void thereIsNoImage() {
        ShieldLine x = Towns.pair();
        x.day();
        due.is("back()", x.back(), STATE);
        led("as it was", x, 1, 4, 0, 0, 0);
        due.is("STORE of 0", x.of(0, 3), 15);
        x.image();
        due.is("back() behind image()", x.back(), 1);
        due.is("back() again", x.back(), 1);
        x.day();
        due.is("back() of the same", x.back(), 1);
        due.is("STORE of 0 of the same", x.of(0, 3), 15);
        Edges.changesNothing(due, () -> {
            ShieldLine y = Towns.chain(4);
            y.mend(0, 3, 7);
            y.undo();
            y.day();
            return y;
        }, ShieldLine::back);
    }

    @Edge(promise = 28, says = "It is laid back (PEOPLE that came since as they are): days.")
    static void peopleThatCameSince() {
        ShieldLine x = new ShieldLine();
        x.image();
        x.person(5);
        x.person(6);
        x.cares(0, 1);
        x.mend(0, 3, 50);
        x.day();
        due.is("back()", x.back(), 0);
        due.is("count(0)", x.count(0), 2);
        due.is("STORE of 0, who came since", x.of(0, 3), 45);
        due.is("CARES of 0, who came since", x.of(0, 4), 1);
        due.is("DAY", x.of(0, 6), 0);
        ShieldLine y = Towns.many(7);
        y.image();
        y.person(0);
        y.cares(6, 7);
        y.cares(7, 6);
        y.gives(6, 7, 5);
        y.back();
        due.is("CARES of 6", y.of(6, 4), -1);
        due.is("STORE of 6", y.of(6, 3), 20);
        due.is("CARES of 7, who came since", y.of(7, 4), 6);
        due.is("STORE of 7, who came since", y.of(7, 3), 25);
    }

    @Edge(promise = 28, says = IMAGE)
    static void whatAnImageKeeps() {
        ShieldLine x = Towns.many(8);
        x.cares(7, 0);
        x.gives(6, 7, 20);
        x.mend(0, 3, 5);
        x.mend(0, 6, 98);
        x.day();
        x.image();
        int[] stores = new int[8];
        for (int i = 0; i < 8; i++) stores[i] = x.of(i, 3);
        for (int i = 0; i < 8; i++) x.cares(i, (i + 1) % 8);
        x.gives(7, 0, 30);
        x.day();
        x.day();
        x.mend(0, 6, 3);
        int[][] mends = {{0, 0, 9}, {0, 1, 9}, {0, 2, 9}, {0, 5, 9}};
        for (int[] mend : mends) x.mend(mend[0], mend[1], mend[2]);
        due.is("back()", x.back(), 1);
        led("of the image", x, 1, 4, 1, 20, 0);
        for (int i = 0; i < 8; i++) due.is("STORE of " + i, x.of(i, 3), stores[i]);
        for (int i = 0; i < 8; i++) due.is("CARES of " + i, x.of(i, 4), i == 7 ? 0 : -1);
        due.is("DAY", x.of(0, 6), 99);
        for (int[] mend : mends) due.is("of(0, " + mend[1] + ") as it is", x.of(0, mend[1]), 9);
    }

    @Edge(promise = 28, says = "(laid back, CHANGES stay as they are)")
    static void changesStayWhenLaidBack() {
        ShieldLine x = Towns.many(1);
        x.mend(0, 3, 50);
        x.image();
        x.mend(0, 3, 60);
        x.mend(0, 6, 9);
        x.mend(0, 3, 70);
        x.undo();
        x.back();
        due.is("STORE laid back", x.of(0, 3), 50);
        due.is("count(3)", x.count(3), 3);
        due.is("redo()", x.redo(), 0);
        due.is("STORE done again", x.of(0, 3), 70);
        due.is("undo()", x.undo(), 3);
        due.is("STORE undone", x.of(0, 3), 60);
        due.is("undo()", x.undo(), 2);
        due.is("undo()", x.undo(), 1);
        due.is("STORE undone", x.of(0, 3), 50);
        due.is("undo()", x.undo(), 0);
        due.is("STORE undone", x.of(0, 3), 20);
        due.is("undo()", x.undo(), STATE);
        due.is("back(), the image is kept", x.back(), 0);
        due.is("STORE laid back", x.of(0, 3), 50);
        due.is("redo(), four may be", x.redo(), 3);
    }

    // ---- promise 29

    @Edge(promise = 29, says = "UNDONE: how many may still be. STATE: none.")
    static void noneToUndo() {
        ShieldLine x = Towns.many(1);
        due.is("undo() at first", x.undo(), STATE);
        x.mend(0, 3, 21);
        due.is("undo()", x.undo(), 0);
        due.is("undo() again", x.undo(), STATE);
        due.is("STORE", x.of(0, 3), 20);
        x.redo();
        x.mend(0, 3, 22);
        due.is("undo() of two", x.undo(), 1);
        due.is("undo() of one", x.undo(), 0);
        due.is("undo() of none", x.undo(), STATE);
        Edges.changesNothing(due, () -> {
            ShieldLine y = Towns.chain(3);
            for (int i = 0; i < 2; i++) y.undo();
            return y;
        }, ShieldLine::undo);
    }

    @Edge(promise = 29, says = CHANGES)
    static void allNumbersAreUndone() {
        ShieldLine x = Towns.many(8);
        int[] become = {35, 9, 9, 99, 0, 9, 99};
        int[] were = {0, 4, 3, 20, -1, 2, 0};
        for (int what = 0; what <= 6; what++) x.mend(what < 5 ? 7 : 0, what, become[what]);
        due.is("count(3)", x.count(3), 7);
        for (int what = 6; what >= 0; what--) {
            int number = what < 5 ? 7 : 0;
            due.is("of(" + number + ", " + what + ")", x.of(number, what), become[what]);
            due.is("undo(), the latest first", x.undo(), what);
            due.is("of(" + number + ", " + what + ")", x.of(number, what), were[what]);
        }
        due.is("undo()", x.undo(), STATE);
    }

    @Edge(promise = 29, says = CHANGES)
    static void fortyAtMostAreKept() {
        for (int n = 39; n <= 42; n++) {
            ShieldLine x = Towns.many(1);
            for (int i = 1; i <= n; i++) x.mend(0, 3, 20 + i);
            int kept = Math.min(40, n);
            due.is("count(3) of " + n, x.count(3), kept);
            for (int left = kept - 1; left >= 0; left--) due.is("undo() of " + n, x.undo(), left);
            due.is("undo() of none, of " + n, x.undo(), STATE);
            due.is("STORE, " + n + " changed and 40 at most undone", x.of(0, 3), 20 + n - kept);
        }
    }

    @Edge(promise = 29, says = CHANGES)
    static void theSameNumberIsNoneToUndo() {
        ShieldLine x = Towns.many(1);
        int[] first = {0, 4, 3, 20, -1, 2, 0};
        for (int what = 0; what <= 6; what++) x.mend(0, what, first[what]);
        due.is("undo()", x.undo(), STATE);
        x.mend(0, 3, 50);
        x.mend(0, 3, 50);
        due.is("undo() of one", x.undo(), 0);
        x.mend(0, 3, 100);
        due.is("undo() behind a refusal", x.undo(), STATE);
    }

    @Edge(promise = 29, says = CHANGES)
    static void deedsAreNone() {
        ShieldLine x = Towns.many(2);
        x.cares(0, 1);
        x.gives(0, 1, 5);
        x.day();
        x.person(3);
        x.image();
        x.back();
        Due.law(x, "9");
        due.is("count(3)", x.count(3), 0);
        due.is("undo()", x.undo(), STATE);
        x.mend(0, 3, 30);
        x.mend(0, 4, -1);
        x.mend(0, 6, 50);
        x.day();
        x.cares(0, 2);
        x.gives(0, 1, 5);
        due.is("undo(), over a day", x.undo(), 2);
        due.is("DAY", x.of(0, 6), 1);
        due.is("undo(), over cares()", x.undo(), 1);
        due.is("CARES", x.of(0, 4), 1);
        due.is("undo(), over a gift", x.undo(), 0);
        due.is("STORE, 20 less 5 and 5 ahead of it", x.of(0, 3), 10);
        led("the deeds stay", x, 2, 4, 2, 10, 0);
    }

    // ---- promise 30

    @Edge(promise = 30, says = "DONE AGAIN: how many may still be. STATE: none.")
    static void noneToDoAgain() {
        ShieldLine x = Towns.many(1);
        due.is("redo() at first", x.redo(), STATE);
        x.mend(0, 3, 21);
        due.is("redo() behind a change", x.redo(), STATE);
        x.undo();
        due.is("redo()", x.redo(), 0);
        due.is("STORE", x.of(0, 3), 21);
        due.is("redo() again", x.redo(), STATE);
        due.is("STORE", x.of(0, 3), 21);
        x.mend(0, 3, 22);
        x.undo();
        x.undo();
        due.is("redo() of two", x.redo(), 1);
        due.is("redo() of one", x.redo(), 0);
        due.is("redo() of none", x.redo(), STATE);
        Edges.changesNothing(due, () -> Towns.chain(3), ShieldLine::redo);
    }

    @Edge(promise = 30, says = "(as long as no other came behind)")
    static void noOtherCameBehind() {
        ShieldLine x = Towns.many(2);
        for (int i = 1; i <= 3; i++) x.mend(0, 3, 20 + i);
        x.undo();
        x.undo();
        x.mend(1, 2, 9);
        due.is("redo(), another came behind", x.redo(), STATE);
        due.is("count(3)", x.count(3), 2);
        due.is("STORE", x.of(0, 3), 21);
        due.is("undo() of the other", x.undo(), 1);
        due.is("redo() of the other", x.redo(), 0);
        due.is("NEEDS of 1", x.of(1, 2), 9);
    }

    @Edge(promise = 30, says = {"telling the same number is none", "deeds are none (STORE, CARES, DAY by them, too)"})
    static void whatIsNoneDoesNotComeBehind() {
        ShieldLine x = Towns.many(2);
        x.mend(0, 3, 21);
        x.mend(0, 1, 9);
        x.mend(1, 4, 0);
        for (int i = 0; i < 3; i++) x.undo();
        x.mend(0, 3, 20);
        due.is("redo() behind the same number", x.redo(), 2);
        x.mend(0, 3, 100);
        due.is("redo() behind a refusal", x.redo(), 1);
        x.undo();
        x.day();
        x.cares(0, 1);
        x.gives(0, 1, 1);
        x.image();
        x.back();
        x.person(9);
        Due.law(x, "9");
        due.is("redo() behind deeds", x.redo(), 1);
        due.is("GIVES", x.of(0, 1), 9);
        due.is("redo()", x.redo(), 0);
        due.is("CARES of 1", x.of(1, 4), 0);
        due.is("redo()", x.redo(), STATE);
    }

    @Edge(promise = 30, says = CHANGES)
    static void fortyAtMostAreDoneAgain() {
        for (int n = 39; n <= 42; n++) {
            ShieldLine x = Towns.many(1);
            for (int i = 1; i <= n; i++) x.mend(0, 3, 20 + i);
            int kept = Math.min(40, n);
            for (int i = 0; i < kept; i++) x.undo();
            for (int left = kept - 1; left >= 0; left--) {
                due.is("redo() of " + n, x.redo(), left);
                due.is("STORE", x.of(0, 3), 20 + n - left);
            }
            due.is("redo() of none, of " + n, x.redo(), STATE);
            due.is("count(3)", x.count(3), kept);
        }
        ShieldLine y = Towns.many(1);
        for (int i = 1; i <= 41; i++) y.mend(0, 3, 20 + i);
        y.undo();
        y.mend(0, 1, 9);
        due.is("redo(), another came behind forty", y.redo(), STATE);
        due.is("count(3)", y.count(3), 40);
        y.mend(0, 1, 8);
        due.is("count(3), forty still", y.count(3), 40);
    }

    /** Of n changes of unlike numbers of unlike people the first are kept no more. */
    @Edge(promise = 30, says = CHANGES)
    static void fortyUnlikeOnes() {
        for (int n = 40; n <= 43; n++) {
            ShieldLine x = Towns.many(8);
            int[] most = {35, 9, 9, 99, 0, 9, 99};
            int[][] told = new int[n][];
            for (int i = 0; i < n; i++) {
                int what = i % 7 == 4 ? 3 : i % 7;
                int one = what < 5 ? i * 5 % 8 : 0;
                int was = x.of(one, what);
                told[i] = new int[] {one, what, was, (was + 1 + i % 3) % (most[what] + 1)};
                x.mend(one, what, told[i][3]);
            }
            for (int i = n - 1; i >= n - 40; i--) {
                due.is("undo() of " + n, x.undo(), i - n + 40);
                due.is("what it was", x.of(told[i][0], told[i][1]), told[i][2]);
            }
            due.is("undo() of none, of " + n, x.undo(), STATE);
            for (int i = n - 40; i < n; i++) {
                due.is("redo() of " + n, x.redo(), n - 1 - i);
                due.is("what it is", x.of(told[i][0], told[i][1]), told[i][3]);
            }
            due.is("redo() of none, of " + n, x.redo(), STATE);
        }
    }

    @Edge(promise = 30, says = CHANGES)
    static void allNumbersAreDoneAgain() {
        ShieldLine x = Towns.many(8);
        int[] become = {35, 9, 9, 99, 0, 9, 99};
        for (int what = 0; what <= 6; what++) x.mend(what < 5 ? 7 : 0, what, become[what]);
        for (int i = 0; i < 7; i++) x.undo();
        for (int what = 0; what <= 6; what++) {
            due.is("redo(), the latest undone first", x.redo(), 6 - what);
            due.is("of(.., " + what + ")", x.of(what < 5 ? 7 : 0, what), become[what]);
        }
    }

    public static void main(String[] args) throws Exception {
        Edges.run(DeedEdgeTest.class, due);
    }
}
