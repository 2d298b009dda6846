/** Promises 17 to 22: stores told, the can, pay, turns, winters. */
public final class StoresTest {
    private static final Due due = new Due();

    private static ShieldLine many(int n) {
        ShieldLine x = new ShieldLine();
        for (int i = 0; i < n; i++) x.person(i);
        return x;
    }

    private static void promise17Judge() {
        ShieldLine x = many(2);
        x.mend(0, 4, 1);
        due.is("17 nothing there", x.judge(0, 0), -11);
        due.is("17 BAD first: one", x.judge(0, 2), -1);
        due.is("17 one -1", x.judge(0, -1), -1);
        due.is("17 shelf 6", x.judge(6, 0), -1);
        due.is("17 shelf -1", x.judge(-1, 0), -1);
        for (int sort = 1; sort <= 4; sort++) {
            x.row(0, sort, 0);
            due.is("17 sort " + sort, x.judge(0, 0), -12);
        }
        x.body(0);
        x.keep(0, 0);
        due.is("17 a shield", x.judge(0, 0), -12);
        x.row(0, 0, 0);
        due.is("17 the empty row", x.judge(0, 0), -2);
        Due.bytes(x, 0, 20, 15, 10, 5, 0, 0);
        due.is("17 all is so", x.judge(0, 0), -2);
        due.is("17 of 1", x.judge(0, 1), 1);
        x.put(0, 0, 21);
        due.is("17 the first", x.judge(0, 0), 0);
        Due.bytes(x, 1, 20, 21, 22, 23, 24, 21, 18, 14);
        due.is("17 the last", x.judge(1, 1), 7);
        x.put(1, 7, 15);
        due.is("17 the last is so", x.judge(1, 1), -2);
    }

    private static void promise17Length() {
        ShieldLine x = many(1);
        x.mend(0, 3, 0);
        x.row(2, 0, 60);
        due.is("17 sixty zeros", x.judge(2, 0), -2);
        x.put(2, 41, 9);
        due.is("17 the 42nd does not count", x.judge(2, 0), -2);
        x.put(2, 40, 9);
        due.is("17 the 41st counts", x.judge(2, 0), 40);
        x.put(2, 3, -128);
        due.is("17 below 0", x.judge(2, 0), 3);
    }

    private static void promise18Fits() {
        ShieldLine x = many(3);
        x.mend(0, 4, 1);
        due.is("18 nothing there", x.fits(0, 10, 0), -11);
        x.row(0, 4, 3);
        due.is("18 booleans", x.fits(0, 10, 0), -12);
        due.is("18 BAD first", x.fits(0, 10, 3), -1);
        Due.bytes(x, 0, 20, 22, 24);
        due.is("18 by one gift", x.fits(0, 10, 0), 1);
        due.is("18 it is 5", x.fits(0, 10, 1), 5);
        due.is("18 by none for whom", x.fits(0, 10, 2), 0);
        due.is("18 by 0's own: none", x.fits(0, 0, 0), 0);
        due.is("18 by 0's own: NOT", x.fits(0, 0, 1), -2);
        Due.bytes(x, 1, 20, 21);
        due.is("18 by 1 alone", x.fits(1, 10, 2), 2);
        due.is("18 for whom 2 cares, so that 1 has 21", x.fits(1, 12, 2), 1 + 256);
        due.is("18 all gifts of 2", x.fits(1, 12, 0), 10);
        due.is("18 the least of 2", x.fits(1, 12, 1), 0);
        Due.bytes(x, 2, 20, 15);
        due.is("18 2 is alone, whoever 0 cares for but him", x.fits(2, 20, 2), 2 + 256);
        x.row(3, 0, 0);
        due.is("18 the empty row: for whom 1", x.fits(3, 1, 2), 1 + 4 + 256);
        due.is("18 the empty row: gifts", x.fits(3, 1, 0), 10);
        due.is("18 no such one", x.fits(0, 30, 0), -1);
        due.is("18 no such told one", x.fits(0, 3, 0), -1);
        due.is("18 ab 9", x.fits(0, 9, 0), -1);
        due.is("18 ab -1", x.fits(0, -1, 0), -1);
        due.is("18 ab below", x.fits(0, -10, 0), -1);
        due.is("18 ab above", x.fits(0, Integer.MAX_VALUE, 0), -1);
        due.is("18 shelf 6", x.fits(6, 0, 0), -1);
        due.is("18 what -1", x.fits(0, 0, -1), -1);
        due.is("18 gives stay", x.of(0, 1), 4);
        due.is("18 cares stay", x.of(0, 4), 1);
        ShieldLine y = many(8);
        y.mend(7, 4, 2);
        y.mend(7, 0, 2);
        Due.bytes(y, 0, 20, 24);
        due.is("18 of 2 by 7", y.fits(0, 27, 1), 7);
        due.is("18 of 7 by 7", y.fits(0, 77, 1), -2);
        Due.bytes(y, 0, 20, 21);
        due.is("18 of 2 by 7, for whom", y.fits(0, 27, 2), 4);
        Due.bytes(y, 0, 20, 15);
        due.is("18 of 2 by 7, for whom not", y.fits(0, 27, 2), 255 - 128 - 4 + 256);
    }

    private static void can(String name, ShieldLine x, long above, long below) {
        due.is("19 above, " + name, x.can(0, 0), above);
        due.is("19 below, " + name, x.can(0, 1), below);
    }

    private static void promise19Can() {
        ShieldLine x = new ShieldLine();
        long none = Long.MIN_VALUE;
        can("nothing there", x, none, none);
        x.row(0, 2, 3);
        can("ints", x, none, none);
        x.body(1);
        x.keep(0, 0);
        can("a shield", x, none, none);
        due.is("19 shelf 6", x.can(6, 0), none);
        due.is("19 shelf -1", x.can(-1, 0), none);
        x.row(0, 0, 0);
        due.is("19 part 2", x.can(0, 2), none);
        due.is("19 part -1", x.can(0, -1), none);
        can("no night", x, 1, 2);
        Due.bytes(x, 0, 1);
        can("gone", x, 3, 4);
        Due.bytes(x, 0, 0);
        can("stood", x, 1, 4);
        Due.bytes(x, 0, 0, 1);
        can("both", x, 1, 2);
        Due.bytes(x, 0, 0, 0, 0, 1);
        can("three to one", x, 1, 10);
        Due.bytes(x, 0, 1, 1, 1, -1, 1);
        can("it ends at -1", x, 27, 28);
        Due.bytes(x, 0, 2, 1, 1);
        can("it ends at once", x, 1, 2);
        x.row(0, 0, 60);
        for (int i = 0; i < 29; i++) x.put(0, i, 1);
        can("29 gone, one stood, thirty count", x, 22876792454961L, 22876792454962L);
        x.put(0, 29, 1);
        can("30 gone", x, 205891132094649L, 205891132094650L);
        x.put(0, 30, 1);
        can("31 gone", x, 205891132094649L, 205891132094650L);
    }

    private static void promise20Paid() {
        ShieldLine x = many(5);
        due.is("20 nobody cares", x.paid(0, 100), 0);
        x.mend(0, 4, 1);
        x.mend(0, 1, 3);
        due.is("20 all to one", x.paid(0, 9999), 9999);
        x.mend(1, 4, 0);
        due.is("20 3 of 7, cut", x.paid(0, 100), 42);
        due.is("20 4 of 7, cut", x.paid(1, 100), 57);
        x.mend(2, 4, 3);
        x.mend(4, 4, 3);
        due.is("20 two care for 3", x.paid(2, 100), 0);
        due.is("20 and are not shared with", x.paid(1, 100), 57);
        x.mend(4, 4, -1);
        due.is("20 3 of 11, cut", x.paid(0, 9999), 2727);
        due.is("20 nothing to share", x.paid(0, 0), 0);
        for (int i = 0; i < 5; i++) x.mend(i, 1, 0);
        due.is("20 no gifts", x.paid(0, 100), 0);
        x.mend(1, 3, 0);
        x.mend(1, 1, 2);
        due.is("20 by GIVES alone", x.paid(1, 5), 5);
        x.mend(1, 1, 1);
        due.is("20 1 of 1", x.paid(1, 5), 5);
        due.is("20 0 of 1", x.paid(0, 5), 0);
        due.is("20 v -1", x.paid(0, -1), -1);
        due.is("20 v 10000", x.paid(0, 10000), -1);
        due.is("20 one 5", x.paid(5, 1), -1);
        due.is("20 one -1", x.paid(-1, 1), -1);
    }

    private static void turns(String name, ShieldLine x, int nt, int lack, int first) {
        due.is("21 LACK, " + name, x.byTurns(nt, 0), lack);
        due.is("21 first, " + name, x.byTurns(nt, 1), first);
    }

    private static void promise21ByTurns() {
        ShieldLine x = many(2);
        int[] bad = {-1, 0, 9, 17, 19, 27, 37, 40, 46, -11, Integer.MIN_VALUE, Integer.MAX_VALUE};
        for (int nt : bad) due.is("21 nt " + nt, x.byTurns(nt, 0), -1);
        due.is("21 what 2", x.byTurns(11, 2), -1);
        due.is("21 what -1", x.byTurns(11, -1), -1);
        turns("both would lack; 0 begins to care, for 1", x, 16, 1, 0);
        x.mend(0, 3, 3);
        turns("1 begins to care, for 0", x, 11, 0, 1);
        turns("the wind can't help it", x, 21, 0, 1);
        turns("behind no day", x, 10, 0, 8);
        turns("the wind takes all of 0", x, 20, 1, 8);
        x.mend(1, 1, 3);
        turns("the wind takes all of 0, just enough comes no more", x, 21, 1, 8);
        turns("as long as the wind has no deed", x, 11, 0, 1);
        x.mend(0, 3, 20);
        x.mend(1, 3, 3);
        turns("0 passes himself over", x, 11, 0, 0);
        due.is("21 cares stay", x.of(0, 4), -1);
        due.is("21 stores stay", x.of(1, 3), 3);
        ShieldLine y = many(1);
        y.mend(0, 3, 5);
        turns("alone: nothing helps", y, 11, 1, 8);
        turns("alone, with store 5, the wind takes it", y, 20, 1, 8);
        turns("alone, still", y, 30, 1, 8);
        y.mend(0, 3, 36);
        turns("the wind takes 5 once in three deeds, and six days 30", y, 36, 0, 8);
        y.mend(0, 3, 35);
        turns("one less", y, 36, 1, 8);
    }

    /** Alone both lack behind two days; by two deeds of his each has more than he needs. */
    private static void promise21Deeds() {
        ShieldLine x = many(2);
        x.mend(0, 3, 8);
        x.mend(1, 3, 8);
        turns("one deed, one is cared for", x, 12, 1, 0);
        turns("one deed each", x, 22, 1, 0);
        turns("two deeds of his", x, 32, 0, 0);
        x.mend(0, 3, 6);
        x.mend(1, 3, 6);
        turns("the wind takes 5 of 6", x, 20, 0, 8);
        x.mend(1, 3, 5);
        turns("the wind takes 5 of 5", x, 20, 1, 8);
        turns("behind no day care does not help", x, 30, 1, 8);
    }

    /** 2 must come from caring for 1, over 0 behind the last one, or over 2 himself. */
    private static void promise21Next() {
        ShieldLine x = many(3);
        x.mend(0, 5, 9);
        x.mend(0, 3, 8);
        x.mend(1, 3, 60);
        x.mend(2, 3, 60);
        x.mend(2, 4, 1);
        turns("2 from 1: 2 is passed over, behind the last 0", x, 11, 0, 1);
        x.mend(1, 4, 2);
        turns("1 from 2: behind the last 0; of like ones the least", x, 11, 0, 1);
        x.mend(1, 3, 0);
        turns("1 has nothing to give, but keeps the wind off", x, 11, 0, 1);
        x.mend(1, 3, 60);
        x.mend(1, 4, 0);
        turns("0 is cared for", x, 11, 0, 8);
    }

    private static int draw(int seed, int n, int m) {
        int z = seed;
        int sum = 0;
        for (int winter = 0; winter < n; winter++) {
            int store = 99;
            for (int day = 0; day < m; day++) {
                z = z * 1103515245 + 12345;
                store = Math.max(0, store - (z >>> 16) % 10);
            }
            sum += store;
        }
        return sum;
    }

    private static void promise22Drawn() {
        ShieldLine x = many(1);
        x.mend(0, 5, 0);
        x.mend(0, 2, 0);
        x.mend(0, 3, 99);
        due.is("22 one day from seed 0: 12345 >>> 16 is 0", x.drawn(0, 101, 0), 99);
        int[] seeds = {0, 1, -1, 77, Integer.MIN_VALUE, Integer.MAX_VALUE};
        for (int seed : seeds) {
            due.is("22 3 winters of 12 days, " + seed, x.drawn(seed, 312, 0), draw(seed, 3, 12));
            due.is("22 30 winters of 40 days, " + seed, x.drawn(seed, 3040, 0), draw(seed, 30, 40));
        }
        x.mend(0, 2, 9);
        due.is("22 all lack behind 12 days", x.drawn(5, 3012, -1), 30);
        due.is("22 nothing left", x.drawn(5, 3012, 0), 0);
        due.is("22 no day passed", x.of(0, 6), 0);
        due.is("22 nothing taken", x.of(0, 3), 99);
        int[] bad = {-101, 0, 1, 40, 99, 100, 141, 200, 3041, 3101, 3100, Integer.MIN_VALUE, Integer.MAX_VALUE};
        for (int nm : bad) due.is("22 nm " + nm, x.drawn(0, nm, -1), -1);
        due.is("22 one 1", x.drawn(0, 101, 1), -1);
        due.is("22 one -2", x.drawn(0, 101, -2), -1);
        due.is("22 nobody", new ShieldLine().drawn(3, 3040, -1), 0);
    }

    /** Seed 1: z is 1103527590, so of three people (z >>> 8) % 3 loses (z >>> 16) % 10 ahead of the day. */
    private static void promise22Who() {
        ShieldLine x = many(3);
        x.mend(0, 5, 0);
        for (int i = 0; i < 3; i++) x.mend(i, 2, 0);
        int z = 1103527590;
        int who = (z >>> 8) % 3;
        int loss = (z >>> 16) % 10;
        for (int i = 0; i < 3; i++) {
            due.is("22 who loses, " + i, x.drawn(1, 101, i), i == who ? 20 - loss : 20);
        }
        due.is("22 something is lost", loss > 0 ? 1 : 0, 1);
        for (int seed = 2; seed < 40; seed++) {
            int y = seed * 1103515245 + 12345;
            for (int i = 0; i < 3; i++) {
                int want = i == (y >>> 8) % 3 ? 20 - (y >>> 16) % 10 : 20;
                due.is("22 who loses by " + seed + ", " + i, x.drawn(seed, 101, i), want);
            }
        }
        x.mend(who, 3, loss);
        x.mend(who, 4, (who + 1) % 3);
        due.is("22 he lacks ahead of the day, so he gives nothing", x.drawn(1, 101, (who + 1) % 3), 20);
        x.mend(who, 3, loss + 1);
        due.is("22 he has one left, so he gives: 4 less 2 by 2", x.drawn(1, 101, (who + 1) % 3), 23);
        Due.law(x, "t+1");
        due.is("22 each winter is from now on", x.drawn(1, 201, (who + 1) % 3) >= 41 ? 1 : 0, 1);
    }

    public static void main(String[] args) {
        promise17Judge();
        promise17Length();
        promise18Fits();
        promise19Can();
        promise20Paid();
        promise21ByTurns();
        promise21Deeds();
        promise21Next();
        promise22Drawn();
        promise22Who();
        due.end();
    }
}
