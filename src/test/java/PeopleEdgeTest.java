/** Promises 1 to 6: each sentence of the document that names a boundary, at it and just beside it. */
public final class PeopleEdgeTest {
    private static final Due due = new Due();
    private static final int BAD = -1, FULL = -3, STATE = -5, VOID = -2000000000, MISSING = -11, UNLIKE = -12;
    private static final int LEAST = Integer.MIN_VALUE, MOST = Integer.MAX_VALUE;

    // ---- promise 1

    @Edge(promise = 1, says = "An empty common.")
    static void nobodyIsThere() {
        ShieldLine x = new ShieldLine();
        due.is("count(0)", x.count(0), 0);
        due.is("of(0, 0)", x.of(0, 0), VOID);
        due.is("lacking(0)", x.lacking(0), 0);
        due.is("person(0), the first", x.person(0), 0);
        due.is("count(0) with one", x.count(0), 1);
        due.is("of(0, 0) with one", x.of(0, 0), 0);
        due.is("of(1, 0) with one", x.of(1, 0), VOID);
    }

    @Edge(promise = 1, says = {"WIND (0 .. 9; 2 at first)", "DAY (0 .. 99; 0 at first)"})
    static void windAndDayAtFirst() {
        ShieldLine x = new ShieldLine();
        due.is("WIND", x.of(0, 5), 2);
        due.is("DAY", x.of(0, 6), 0);
        x.person(0);
        due.is("WIND with one", x.of(0, 5), 2);
        due.is("DAY with one", x.of(0, 6), 0);
        due.is("later(1, 0): 3 and WIND 2 go", x.later(1, 0), 15);
    }

    @Edge(promise = 1, says = "Without a text: g, less d by 2 (cut).")
    static void noLawAtFirst() {
        ShieldLine x = Towns.pair();
        due.is("comes(0)", x.comes(0), 4);
        due.is("law() of an empty tape", x.law(), -100);
        due.is("comes(0) still", x.comes(0), 4);
    }

    @Edge(promise = 1, says = "SHELVES 0 .. 5 each hold nothing (at first)")
    static void shelvesHoldNothing() {
        ShieldLine x = new ShieldLine();
        for (int shelf = 0; shelf <= 5; shelf++) due.is("taken(" + shelf + ", 0)", x.taken(shelf, 0), MISSING);
        for (int shelf = 0; shelf <= 5; shelf++) due.is("put(" + shelf + ", 0, 1)", x.put(shelf, 0, 1), MISSING);
    }

    @Edge(promise = 1, says = "An empty common.")
    static void nothingIsLedFedKeptOrChanged() {
        ShieldLine x = new ShieldLine();
        for (int what = 0; what <= 5; what++) due.is("count(" + what + ")", x.count(what), 0);
        for (int what = 0; what <= 4; what++) due.is("led(" + what + ")", x.led(what), 0);
        due.is("undo()", x.undo(), STATE);
        due.is("redo()", x.redo(), STATE);
        due.is("back()", x.back(), STATE);
        due.is("trace(0)", x.trace(0), BAD);
        due.is("act(0, 0, 1)", x.act(0, 0, 1), 0);
        due.is("feed(0), the first", x.feed(0), 1);
        due.is("body(0), the first", x.body(0), 0);
    }

    @Edge(promise = 1, says = "An object is used for at most 512 calls after it has been made")
    static void fiveHundredAndTwelveCalls() {
        ShieldLine x = new ShieldLine();
        x.person(0);
        for (int call = 2; call <= 511; call++) x.day();
        due.is("led(0), the 512th call", x.led(0), 510);
        ShieldLine y = new ShieldLine();
        y.person(0);
        for (int call = 2; call <= 511; call++) y.mend(0, 3, 20 + call % 2);
        due.is("undo(), the 512th call", y.undo(), 39);
        ShieldLine z = new ShieldLine();
        for (int call = 1; call <= 511; call++) z.body(call % 8);
        due.is("act(49, 0, 1), the 512th call", z.act(49, 0, 1), 50);
        ShieldLine u = new ShieldLine();
        for (int call = 1; call <= 511; call++) u.feed('g');
        due.is("count(2), the 512th call", u.count(2), 120);
    }

    @Edge(promise = 1, says = "All memory is the class's own.")
    static void objectsStandApart() {
        ShieldLine x = Whole.town();
        ShieldLine y = new ShieldLine();
        due.is("count(0) of another one", y.count(0), 0);
        due.is("taken(0, 0) of another one", y.taken(0, 0), MISSING);
        due.is("back() of another one", y.back(), STATE);
        y.person(3);
        y.day();
        due.same("the first one", Whole.seen(x), Whole.seen(Whole.town()));
    }

    @Edge(promise = 1, says = {"Answers, of several the one named first: BAD (-1): no such number, or it is not as said; "
        + "NOT (-2): as told; FULL (-3); STATE (-5): as told; -11 to -14. VOID is -2000000000."})
    static void whatRefusalsAre() {
        due.is("BAD", ShieldLine.BAD, -1);
        due.is("NOT", ShieldLine.NOT, -2);
        due.is("FULL", ShieldLine.FULL, -3);
        due.is("STATE", ShieldLine.STATE, -5);
        due.is("VOID", ShieldLine.VOID, -2000000000);
        ShieldLine x = new ShieldLine();
        due.is("person(-1)", x.person(-1), -1);
        due.is("first(-1) of nobody", x.first(-1), -2);
        for (int i = 0; i < 8; i++) x.person(0);
        due.is("the ninth person(0)", x.person(0), -3);
        due.is("undo() of none", x.undo(), -5);
        due.is("put(0, 0, 1) of nothing", x.put(0, 0, 1), -11);
        x.row(0, 1, 1);
        due.is("judge(0, 0) of shorts", x.judge(0, 0), -12);
        due.is("put(0, 1, 1) of one", x.put(0, 1, 1), -13);
        due.is("row(0, 0, -1)", x.row(0, 0, -1), -14);
        due.is("mend(0, 7, 0)", x.mend(0, 7, 0), -2000000000);
    }

    // ---- promise 2

    @Edge(promise = 2, says = {"PLACES 0 .. 35", "One of PEOPLE at a PLACE: the number. BAD"})
    static void placesOfAPerson() {
        ShieldLine x = new ShieldLine();
        int[] bad = {-1, 36, 37, -35, LEAST, MOST};
        for (int place : bad) due.is("person(" + place + ")", x.person(place), BAD);
        due.is("person(0)", x.person(0), 0);
        due.is("person(35)", x.person(35), 1);
        due.is("person(1)", x.person(1), 2);
        due.is("person(34)", x.person(34), 3);
        due.is("PLACE 0", x.of(0, 0), 0);
        due.is("PLACE 35", x.of(1, 0), 35);
    }

    @Edge(promise = 2, says = {"PEOPLE 0 .. 7, as they come", "FULL: 8."})
    static void eightPeople() {
        ShieldLine x = new ShieldLine();
        for (int i = 0; i < 8; i++) due.is("person(" + (20 - i) + ")", x.person(20 - i), i);
        due.is("the ninth", x.person(0), FULL);
        due.is("the tenth", x.person(35), FULL);
        due.is("count(0)", x.count(0), 8);
        for (int i = 0; i < 8; i++) due.is("PLACE of " + i, x.of(i, 0), 20 - i);
        due.is("of(8, 0)", x.of(8, 0), VOID);
    }

    @Edge(promise = 2, says = "Answers, of several the one named first")
    static void badIsNamedAheadOfFull() {
        ShieldLine x = Towns.many(8);
        due.is("person(36) of a full common", x.person(36), BAD);
        due.is("person(-1) of a full common", x.person(-1), BAD);
        due.is("person(35) of a full common", x.person(35), FULL);
    }

    @Edge(promise = 2, says = {"GIVES (0 .. 9; 4 at first)", "NEEDS (0 .. 9; 3 at first)",
        "STORE (0 .. 99; 20 at first)", "-1 at first)"})
    static void numbersAtFirst() {
        ShieldLine x = Towns.many(8);
        int[] first = {0, 4, 3, 20, -1};
        for (int one = 0; one < 8; one += 7) {
            for (int what = 0; what <= 4; what++) due.is("of(" + one + ", " + what + ")", x.of(one, what), first[what]);
        }
    }

    @Edge(promise = 2, says = "What is answered so changes nothing.")
    static void refusedPersonChangesNothing() {
        Edges.changesNothing(due, x -> {
            x.person(-1);
            x.person(36);
        });
        Edges.changesNothing(due, () -> {
            ShieldLine x = Whole.town();
            for (int i = 0; i < 4; i++) x.person(i);
            return x;
        }, x -> x.person(0));
    }

    // ---- promise 3

    private static final String ROW = "it ends where the row is missing, ends (at a place below 0, too; within a three, "
        + "too), one is not so, or PEOPLE are FULL: those ahead came.";

    @Edge(promise = 3, says = {"n (1 .. 8) of them: how many came. BAD"})
    static void howManyOfThem() {
        ShieldLine x = new ShieldLine();
        x.row(0, 0, 60);
        int[] bad = {0, 9, -1, 10, LEAST, MOST};
        for (int n : bad) due.is("people(0, 0, " + n + ")", x.people(0, 0, n), BAD);
        due.is("count(0)", x.count(0), 0);
        due.is("people(0, 0, 1)", x.people(0, 0, 1), 1);
        due.is("count(0)", x.count(0), 1);
        ShieldLine y = new ShieldLine();
        y.row(0, 0, 60);
        due.is("people(0, 0, 8)", y.people(0, 0, 8), 8);
        due.is("count(0)", y.count(0), 8);
    }

    @Edge(promise = 3, says = "SHELVES 0 .. 5")
    static void shelvesOfPeople() {
        ShieldLine x = new ShieldLine();
        for (int shelf = 0; shelf <= 5; shelf++) x.row(shelf, 0, 3);
        int[] bad = {-1, 6, LEAST, MOST};
        for (int shelf : bad) due.is("people(" + shelf + ", 0, 1)", x.people(shelf, 0, 1), BAD);
        for (int shelf = 0; shelf <= 5; shelf++) due.is("people(" + shelf + ", 0, 1)", x.people(shelf, 0, 1), 1);
    }

    @Edge(promise = 3, says = {"-12 (no ROW of bytes; a SHELF that holds nothing is missing).", ROW})
    static void noRowOfBytes() {
        ShieldLine x = new ShieldLine();
        x.body(0);
        due.is("people() where nothing is", x.people(0, 0, 1), 0);
        for (int sort = 1; sort <= 4; sort++) {
            x.row(0, sort, 3);
            due.is("people() of sort " + sort, x.people(0, 0, 1), UNLIKE);
        }
        x.keep(0, 0);
        due.is("people() of a shield", x.people(0, 0, 1), UNLIKE);
        x.keep(0, -1);
        due.is("people() where nothing is any more", x.people(0, 0, 1), 0);
        due.is("count(0)", x.count(0), 0);
        x.row(0, 0, 3);
        due.is("people() of bytes", x.people(0, 0, 1), 1);
    }

    @Edge(promise = 3, says = "Answers, of several the one named first")
    static void badIsNamedAheadOfNoBytes() {
        ShieldLine x = new ShieldLine();
        x.row(0, 1, 3);
        due.is("people(0, 0, 9) of shorts", x.people(0, 0, 9), BAD);
        due.is("people(0, 0, 0) of shorts", x.people(0, 0, 0), BAD);
        due.is("people(0, -1, 1) of shorts", x.people(0, -1, 1), UNLIKE);
        due.is("people(1, 0, 9) of nothing", x.people(1, 0, 9), BAD);
    }

    @Edge(promise = 3, says = ROW)
    static void placesBelowZero() {
        ShieldLine x = new ShieldLine();
        Due.bytes(x, 0, 1, 2, 3, 4, 5, 6);
        int[] below = {-1, -2, -3, -6, LEAST, LEAST + 1};
        for (int i : below) due.is("people(0, " + i + ", 1)", x.people(0, i, 1), 0);
        due.is("count(0)", x.count(0), 0);
        due.is("people(0, 0, 1)", x.people(0, 0, 1), 1);
        due.is("PLACE", x.of(0, 0), 1);
    }

    @Edge(promise = 3, says = ROW)
    static void theRowEnds() {
        ShieldLine x = new ShieldLine();
        Due.bytes(x, 0, 1, 1, 1, 2, 2, 2);
        int[] behind = {6, 7, 60, MOST, MOST - 1, MOST - 2};
        for (int i : behind) due.is("people(0, " + i + ", 1)", x.people(0, i, 1), 0);
        due.is("people(0, 3, 1)", x.people(0, 3, 1), 1);
        due.is("people(0, 3, 2): the row ends behind one", x.people(0, 3, 2), 1);
        due.is("people(0, 0, 2): just two", x.people(0, 0, 2), 2);
        due.is("people(0, 0, 3): the row ends behind two", x.people(0, 0, 3), 2);
        x.row(1, 0, 0);
        due.is("people(1, 0, 1) of an empty row", x.people(1, 0, 1), 0);
        due.is("count(0)", x.count(0), 6);
    }

    @Edge(promise = 3, says = ROW)
    static void theRowEndsWithinAThree() {
        ShieldLine x = new ShieldLine();
        Due.bytes(x, 0, 1, 1, 1, 2, 2);
        due.is("people(0, 3, 1): two bytes", x.people(0, 3, 1), 0);
        due.is("people(0, 4, 1): one byte", x.people(0, 4, 1), 0);
        due.is("people(0, 2, 1): three bytes", x.people(0, 2, 1), 1);
        due.is("people(0, 0, 2): one, and two bytes", x.people(0, 0, 2), 1);
        due.is("people(0, 1, 2): one, and one byte", x.people(0, 1, 2), 1);
        due.is("count(0)", x.count(0), 3);
        due.is("those ahead came", x.of(1, 0), 1);
    }

    @Edge(promise = 3, says = ROW)
    static void oneIsNotSo() {
        int[][] notSo = {{36, 0, 0}, {-1, 0, 0}, {0, 10, 0}, {0, -1, 0}, {0, 0, 10}, {0, 0, -1}, {127, 0, 0}, {0, -128, 0}};
        for (int[] three : notSo) {
            ShieldLine x = new ShieldLine();
            Due.bytes(x, 0, 1, 1, 1, three[0], three[1], three[2], 1, 1, 1);
            String told = three[0] + ", " + three[1] + ", " + three[2];
            due.is("people(0, 0, 3), the second " + told, x.people(0, 0, 3), 1);
            due.is("count(0)", x.count(0), 1);
            due.is("people(0, 3, 1) of " + told, x.people(0, 3, 1), 0);
        }
        int[][] isSo = {{0, 0, 0}, {35, 9, 9}, {35, 0, 0}, {0, 9, 0}, {0, 0, 9}};
        for (int[] three : isSo) {
            ShieldLine x = new ShieldLine();
            Due.bytes(x, 0, three);
            due.is("people(0, 0, 1)", x.people(0, 0, 1), 1);
            for (int what = 0; what < 3; what++) due.is("of(0, " + what + ")", x.of(0, what), three[what]);
        }
    }

    @Edge(promise = 3, says = ROW)
    static void peopleAreFull() {
        ShieldLine x = Towns.many(6);
        x.row(0, 0, 60);
        x.put(0, 0, 7);
        due.is("people(0, 0, 3), two have room", x.people(0, 0, 3), 2);
        due.is("count(0)", x.count(0), 8);
        due.is("PLACE of 6", x.of(6, 0), 7);
        due.is("people(0, 0, 1), none has", x.people(0, 0, 1), 0);
        ShieldLine y = Towns.many(7);
        y.row(0, 0, 60);
        due.is("people(0, 0, 1), the last", y.people(0, 0, 1), 1);
        ShieldLine z = Towns.many(8);
        due.is("people(0, 0, 1), full and missing", z.people(0, 0, 1), 0);
        z.row(0, 1, 3);
        due.is("people(0, 0, 1), full and no bytes", z.people(0, 0, 1), UNLIKE);
    }

    @Edge(promise = 3, says = {"STORE (0 .. 99; 20 at first)", "CARES (-1: for nobody, or another one; -1 at first)"})
    static void storeAndCaresAtFirst() {
        ShieldLine x = new ShieldLine();
        Due.bytes(x, 0, 1, 2, 3);
        x.people(0, 0, 1);
        due.is("STORE", x.of(0, 3), 20);
        due.is("CARES", x.of(0, 4), -1);
    }

    @Edge(promise = 3, says = "What is answered so changes nothing.")
    static void refusedPeopleChangeNothing() {
        Edges.changesNothing(due, x -> {
            x.people(-1, 0, 1);
            x.people(6, 0, 1);
            x.people(0, 0, 0);
            x.people(0, 0, 9);
            x.people(1, 0, 1);
            x.people(2, 0, 1);
            x.people(3, 0, 1);
            x.people(4, 0, 1);
            x.people(5, 0, 1);
            x.people(0, -1, 1);
            x.people(0, 2, 1);
        });
    }

    // ---- promise 4

    /** What of number becomes each of good, and none of bad; it was first. */
    private static void numbers(ShieldLine x, int number, int what, int first, int[] good, int[] bad) {
        String call = "mend(" + number + ", " + what + ", ";
        int was = first;
        for (int v : bad) due.is(call + v + ")", x.mend(number, what, v), VOID);
        for (int v : good) {
            due.is(call + v + ")", x.mend(number, what, v), was);
            due.is("of(" + number + ", " + what + ")", x.of(number, what), v);
            was = v;
        }
        for (int v : bad) due.is(call + v + ")", x.mend(number, what, v), VOID);
        due.is("of(" + number + ", " + what + ") behind refusals", x.of(number, what), was);
    }

    @Edge(promise = 4, says = {"PLACES 0 .. 35", "VOID: BAD."})
    static void mendedPlace() {
        numbers(Towns.many(2), 1, 0, 0, new int[] {1, 34, 35, 0}, new int[] {-1, 36, LEAST, MOST});
    }

    @Edge(promise = 4, says = {"GIVES (0 .. 9; 4 at first)", "VOID: BAD."})
    static void mendedGives() {
        numbers(Towns.many(2), 1, 1, 4, new int[] {0, 1, 8, 9}, new int[] {-1, 10, LEAST, MOST});
    }

    @Edge(promise = 4, says = {"NEEDS (0 .. 9; 3 at first)", "VOID: BAD."})
    static void mendedNeeds() {
        numbers(Towns.many(2), 1, 2, 3, new int[] {0, 1, 8, 9}, new int[] {-1, 10, LEAST, MOST});
    }

    @Edge(promise = 4, says = {"STORE (0 .. 99; 20 at first)", "VOID: BAD."})
    static void mendedStore() {
        numbers(Towns.many(2), 1, 3, 20, new int[] {0, 1, 98, 99}, new int[] {-1, 100, LEAST, MOST});
    }

    @Edge(promise = 4, says = {"CARES (-1: for nobody, or another one; -1 at first)", "VOID: BAD."})
    static void mendedCares() {
        numbers(Towns.many(4), 2, 4, -1, new int[] {0, 1, 3, -1}, new int[] {2, 4, 8, -2, LEAST, MOST});
        numbers(Towns.many(8), 7, 4, -1, new int[] {0, 6, -1}, new int[] {7, 8, -2});
        numbers(Towns.many(8), 0, 4, -1, new int[] {1, 7, -1}, new int[] {0, 8, -2});
        numbers(Towns.many(1), 0, 4, -1, new int[] {-1}, new int[] {0, 1, -2});
    }

    @Edge(promise = 4, says = {"WIND (0 .. 9; 2 at first)", "VOID: BAD."})
    static void mendedWind() {
        numbers(Towns.many(2), 0, 5, 2, new int[] {0, 1, 8, 9}, new int[] {-1, 10, LEAST, MOST});
    }

    @Edge(promise = 4, says = {"DAY (0 .. 99; 0 at first)", "VOID: BAD."})
    static void mendedDay() {
        numbers(Towns.many(2), 0, 6, 0, new int[] {1, 98, 99, 0}, new int[] {-1, 100, LEAST, MOST});
    }

    @Edge(promise = 4, says = "WIND (5), DAY (6; number 0 for these, else BAD)")
    static void mendedWindAndDayHaveNumberZero() {
        ShieldLine x = Towns.many(2);
        int[] bad = {1, -1, 2, 7, LEAST, MOST};
        for (int number : bad) {
            due.is("mend(" + number + ", 5, 1)", x.mend(number, 5, 1), VOID);
            due.is("mend(" + number + ", 6, 1)", x.mend(number, 6, 1), VOID);
        }
        due.is("WIND", x.of(0, 5), 2);
        due.is("DAY", x.of(0, 6), 0);
        ShieldLine y = new ShieldLine();
        due.is("mend(0, 5, 1) without people", y.mend(0, 5, 1), 2);
        due.is("mend(0, 6, 1) without people", y.mend(0, 6, 1), 0);
        due.is("mend(0, 3, 1) without people", y.mend(0, 3, 1), VOID);
    }

    @Edge(promise = 4, says = "PLACE (what 0), GIVES (1), NEEDS (2), STORE (3), CARES (4) of one, WIND (5), DAY (6;")
    static void mendedWhat() {
        ShieldLine x = Towns.many(1);
        int[] bad = {-1, 7, 8, LEAST, MOST};
        for (int what : bad) due.is("mend(0, " + what + ", 0)", x.mend(0, what, 0), VOID);
        due.is("mend(0, 0, 9)", x.mend(0, 0, 9), 0);
        due.is("mend(0, 6, 9)", x.mend(0, 6, 9), 0);
        int[] now = {9, 4, 3, 20, -1, 2, 9};
        for (int what = 0; what <= 6; what++) due.is("of(0, " + what + ")", x.of(0, what), now[what]);
    }

    @Edge(promise = 4, says = {"PEOPLE 0 .. 7", "BAD (-1): no such number, or it is not as said"})
    static void mendedOneIsThere() {
        ShieldLine x = Towns.many(2);
        for (int what = 0; what <= 3; what++) {
            due.is("mend(2, " + what + ", 1)", x.mend(2, what, 1), VOID);
            due.is("mend(-1, " + what + ", 1)", x.mend(-1, what, 1), VOID);
        }
        due.is("mend(2, 4, -1)", x.mend(2, 4, -1), VOID);
        due.is("mend(-1, 4, -1)", x.mend(-1, 4, -1), VOID);
        due.is("mend(1, 3, 1)", x.mend(1, 3, 1), 20);
        ShieldLine y = Towns.many(8);
        due.is("mend(7, 3, 1)", y.mend(7, 3, 1), 20);
        due.is("mend(8, 3, 1)", y.mend(8, 3, 1), VOID);
    }

    @Edge(promise = 4, says = "telling the same number is none")
    static void mendedToTheSame() {
        ShieldLine x = Towns.many(1);
        int[] first = {0, 4, 3, 20, -1, 2, 0};
        for (int what = 0; what <= 6; what++) due.is("mend(0, " + what + ", ..)", x.mend(0, what, first[what]), first[what]);
        due.is("count(3)", x.count(3), 0);
        due.is("mend(0, 3, 21)", x.mend(0, 3, 21), 20);
        due.is("count(3)", x.count(3), 1);
        due.is("mend(0, 3, 21) again", x.mend(0, 3, 21), 21);
        due.is("count(3)", x.count(3), 1);
    }

    @Edge(promise = 4, says = "What is answered so changes nothing.")
    static void refusedMendChangesNothing() {
        Edges.changesNothing(due, x -> {
            int[] most = {35, 9, 9, 99, 3, 9, 99};
            for (int what = 0; what <= 6; what++) {
                x.mend(0, what, most[what] + 1);
                x.mend(0, what, -2);
                x.mend(4, what, 0);
                x.mend(-1, what, 0);
            }
            x.mend(0, 4, 0);
            x.mend(1, 5, 0);
            x.mend(1, 6, 0);
            x.mend(0, 7, 0);
            x.mend(0, -1, 0);
        });
    }

    // ---- promise 5

    @Edge(promise = 5, says = "As of mend() (0 to 6). VOID: BAD.")
    static void whatIsAsked() {
        ShieldLine x = Towns.many(1);
        int[] bad = {-1, 7, LEAST, MOST};
        for (int what : bad) due.is("of(0, " + what + ")", x.of(0, what), VOID);
        int[] first = {0, 4, 3, 20, -1, 2, 0};
        for (int what = 0; what <= 6; what++) due.is("of(0, " + what + ")", x.of(0, what), first[what]);
    }

    @Edge(promise = 5, says = {"PEOPLE 0 .. 7", "VOID: BAD."})
    static void oneAskedIsThere() {
        ShieldLine x = Towns.many(8);
        x.mend(7, 3, 99);
        due.is("of(7, 3)", x.of(7, 3), 99);
        int[] bad = {8, -1, LEAST, MOST};
        for (int one : bad) {
            for (int what = 0; what <= 4; what++) due.is("of(" + one + ", " + what + ")", x.of(one, what), VOID);
        }
        ShieldLine y = new ShieldLine();
        for (int what = 0; what <= 4; what++) due.is("of(0, " + what + ") without people", y.of(0, what), VOID);
    }

    @Edge(promise = 5, says = "As of mend()")
    static void windAndDayAskedHaveNumberZero() {
        ShieldLine x = Towns.many(2);
        int[] bad = {1, -1, LEAST, MOST};
        for (int number : bad) {
            due.is("of(" + number + ", 5)", x.of(number, 5), VOID);
            due.is("of(" + number + ", 6)", x.of(number, 6), VOID);
        }
        due.is("of(0, 5)", x.of(0, 5), 2);
        due.is("of(0, 5) without people", new ShieldLine().of(0, 5), 2);
        due.is("of(0, 6) without people", new ShieldLine().of(0, 6), 0);
    }

    // ---- promise 6

    @Edge(promise = 6, says = {"A byte (0 .. 255) comes to THE TAPE: how many it has. BAD"})
    static void bytesFed() {
        ShieldLine x = new ShieldLine();
        int[] bad = {-1, 256, 257, LEAST, MOST};
        for (int letter : bad) due.is("feed(" + letter + ")", x.feed(letter), BAD);
        due.is("count(2)", x.count(2), 0);
        due.is("feed(0)", x.feed(0), 1);
        due.is("feed(255)", x.feed(255), 2);
        due.is("feed(1)", x.feed(1), 3);
        due.is("feed(254)", x.feed(254), 4);
    }

    @Edge(promise = 6, says = {"THE TAPE (at most 120 bytes)", "FULL (120)."})
    static void theTapeIsFull() {
        ShieldLine x = new ShieldLine();
        for (int i = 1; i <= 120; i++) due.is("feed(" + i + ")", x.feed(i), i);
        due.is("the 121st", x.feed('g'), FULL);
        due.is("the 122nd", x.feed(0), FULL);
        due.is("count(2)", x.count(2), 120);
        x.law();
        due.is("the first behind law()", x.feed('g'), 1);
    }

    @Edge(promise = 6, says = "Answers, of several the one named first")
    static void badIsNamedAheadOfAFullTape() {
        ShieldLine x = new ShieldLine();
        for (int i = 1; i <= 120; i++) x.feed(0);
        due.is("feed(256)", x.feed(256), BAD);
        due.is("feed(-1)", x.feed(-1), BAD);
        due.is("feed(255)", x.feed(255), FULL);
    }

    @Edge(promise = 6, says = "What is answered so changes nothing.")
    static void refusedFeedChangesNothing() {
        Edges.changesNothing(due, x -> {
            x.feed(-1);
            x.feed(256);
        });
        ShieldLine x = Towns.pair();
        for (int i = 0; i < 60; i++) x.feed(i == 0 ? '9' : '0');
        for (int i = 0; i < 60; i++) x.feed(i % 2 == 0 ? '+' : '1');
        x.feed('+');
        due.is("law(): the fifth digit", x.law(), -104);
        due.is("law() behind it", Due.law(x, "9"), 1);
        due.is("comes(0)", x.comes(0), 9);
    }

    public static void main(String[] args) throws Exception {
        Edges.run(PeopleEdgeTest.class, due);
    }
}
