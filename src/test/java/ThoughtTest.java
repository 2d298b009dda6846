/** Promises 9 to 16: days in thought, care, rings, and who would lack. */
public final class ThoughtTest {
    private static final Due due = new Due();

    /** 0 at 0 cares for 1 beside him: 0 loses 5 a day, and 1 wins 1 as long as 0 has some. */
    private static ShieldLine pair() {
        ShieldLine x = new ShieldLine();
        x.person(0);
        x.person(1);
        x.mend(0, 4, 1);
        return x;
    }

    private static ShieldLine many(int n) {
        ShieldLine x = new ShieldLine();
        for (int i = 0; i < n; i++) x.person(i);
        return x;
    }

    private static void promise9Later() {
        ShieldLine x = pair();
        due.is("9 now", x.later(0, 0), 20);
        due.is("9 now, all", x.later(0, -1), 40);
        due.is("9 two days, all", x.later(2, -1), 32);
        due.is("9 four days, 0", x.later(4, 0), 0);
        due.is("9 four days, 1", x.later(4, 1), 24);
        due.is("9 five days, 1: nothing came", x.later(5, 1), 21);
        due.is("9 five days, all", x.later(5, -1), 21);
        due.is("9 forty days", x.later(40, -1), 0);
        due.is("9 n 41", x.later(41, 0), -1);
        due.is("9 n -1", x.later(-1, 0), -1);
        due.is("9 one 2", x.later(1, 2), -1);
        due.is("9 one -2", x.later(1, -2), -1);
        due.is("9 nothing changes", x.of(0, 3), 20);
        due.is("9 no day passes", x.of(0, 6), 0);
        due.is("9 nothing is led", x.led(0) + x.led(1), 0);
    }

    private static void promise9Held() {
        ShieldLine x = pair();
        x.mend(1, 3, 2);
        x.mend(1, 2, 5);
        due.is("9 2 and 4 less 5, held at once", x.later(1, 1), 1);
        x.mend(1, 3, 98);
        x.mend(1, 2, 3);
        due.is("9 98 and 4 less 3, held at once", x.later(1, 1), 99);
        x.mend(1, 3, 99);
        due.is("9 99 at most", x.later(1, 1), 99);
        x.mend(0, 3, 1);
        due.is("9 0 at least", x.later(1, 0), 0);
        x.mend(0, 5, 0);
        due.is("9 without wind", x.later(1, 0), 0);
        x.mend(0, 3, 30);
        due.is("9 without wind 3 a day", x.later(2, 0), 24);
        x.mend(0, 5, 9);
        due.is("9 wind 9, 3 a day", x.later(2, 0), 6);
        due.is("9 the one cared for has no wind", x.later(2, 1), 99);
        x.mend(0, 3, 0);
        due.is("9 cared for, though nothing comes: no wind", x.later(2, 1), 93);
    }

    private static void promise9Law() {
        ShieldLine x = pair();
        Due.law(x, "t");
        x.mend(0, 5, 0);
        x.mend(0, 2, 0);
        x.mend(1, 2, 0);
        due.is("9 days 0, 1, 2, 3 come", x.later(4, 1), 26);
        x.mend(0, 6, 98);
        Due.law(x, "t-97");
        due.is("9 DAY 99 stays: 1, 2, 2, 2", x.later(4, 1), 27);
        Due.law(x, "s/10");
        x.mend(0, 3, 35);
        x.mend(0, 2, 9);
        due.is("9 STORE as it stands: 35, 26, 17, 8", x.later(4, 1), 26);
        x.person(2);
        x.mend(2, 4, 1);
        Due.law(x, "k");
        due.is("9 two care, 2 from each", x.later(1, 1), 24);
        x.mend(2, 3, 0);
        due.is("9 one of the two has none, 2 from the other", x.later(1, 1), 22);
    }

    private static void promise10Lacking() {
        ShieldLine x = pair();
        due.is("10 now", x.lacking(0), 0);
        due.is("10 three days", x.lacking(3), 0);
        due.is("10 four days", x.lacking(4), 1);
        due.is("10 eleven days", x.lacking(11), 1);
        due.is("10 twelve days", x.lacking(12), 3);
        due.is("10 forty days", x.lacking(40), 3);
        due.is("10 n 41", x.lacking(41), -1);
        due.is("10 n -1", x.lacking(-1), -1);
        x.mend(1, 3, 0);
        due.is("10 now 1", x.lacking(0), 2);
        due.is("10 it may come again", x.lacking(1), 0);
        ShieldLine y = many(8);
        y.mend(7, 3, 0);
        due.is("10 the last bit", y.lacking(0), 128);
        due.is("10 all bits", y.lacking(4), 255);
    }

    private static void promise11First() {
        ShieldLine x = pair();
        due.is("11 first(0)", x.first(0), 4);
        due.is("11 first(1)", x.first(1), 12);
        due.is("11 who", x.first(-1), 0);
        due.is("11 one 2", x.first(2), -1);
        due.is("11 one -2", x.first(-2), -1);
        x.mend(1, 3, 0);
        due.is("11 now", x.first(1), 0);
        due.is("11 who now", x.first(-1), 1);
        ShieldLine y = many(3);
        y.mend(0, 3, 50);
        due.is("11 of like ones the least", y.first(-1), 1);
        y.mend(0, 5, 0);
        for (int i = 0; i < 3; i++) y.mend(i, 2, 1);
        for (int i = 0; i < 3; i++) y.mend(i, 3, 41);
        due.is("11 behind 41 days: not", y.first(0), -2);
        due.is("11 nobody", y.first(-1), -2);
        y.mend(2, 3, 40);
        due.is("11 behind 40 days", y.first(2), 40);
        due.is("11 who, behind 40 days", y.first(-1), 2);
        due.is("11 nobody there", new ShieldLine().first(-1), -2);
    }

    private static void promise12Care() {
        ShieldLine x = many(6);
        x.mend(0, 4, 1);
        x.mend(1, 4, 2);
        x.mend(2, 4, 1);
        x.mend(3, 4, 4);
        due.is("12 END, it goes round", x.care(0, 0), -2);
        due.is("12 END in the ring", x.care(1, 0), -2);
        due.is("12 END", x.care(3, 0), 4);
        due.is("12 END, himself", x.care(4, 0), 4);
        due.is("12 RING ahead of it", x.care(0, 1), -2);
        due.is("12 RING of two", x.care(1, 1), 2);
        due.is("12 RING, none", x.care(3, 1), -2);
        due.is("12 RING of himself, none", x.care(4, 1), -2);
        x.mend(4, 4, 5);
        x.mend(5, 4, 0);
        due.is("12 END from far, it goes round", x.care(3, 0), -2);
        x.mend(2, 4, 3);
        due.is("12 RING of all", x.care(3, 1), 6);
        due.is("12 END of all", x.care(3, 0), -2);
        x.mend(2, 4, -1);
        due.is("12 END behind five steps", x.care(3, 0), 2);
        due.is("12 what 2", x.care(0, 2), -1);
        due.is("12 what -1", x.care(0, -1), -1);
        due.is("12 one 6", x.care(6, 0), -1);
        due.is("12 one -1", x.care(-1, 0), -1);
    }

    private static void promise13Cared() {
        ShieldLine x = many(5);
        due.is("13 NOBODY: all", x.cared(0), 31);
        due.is("13 TWO: none", x.cared(1), 0);
        x.mend(0, 4, 4);
        x.mend(1, 4, 4);
        x.mend(2, 4, 0);
        due.is("13 NOBODY", x.cared(0), 14);
        due.is("13 TWO", x.cared(1), 16);
        x.mend(3, 4, 4);
        due.is("13 three are two, too", x.cared(1), 16);
        x.mend(4, 4, 0);
        due.is("13 TWO of them", x.cared(1), 17);
        due.is("13 what 2", x.cared(2), -1);
        due.is("13 what -1", x.cared(-1), -1);
    }

    private static void promise14Round() {
        ShieldLine x = many(1);
        due.is("14 one alone", x.round(0, -1), -2);
        due.is("14 one alone, himself", x.round(0, 0), -2);
        due.is("14 BAD first", x.round(7, -1), -1);
        due.is("14 BAD first", x.round(0, 1), -1);
        x.person(1);
        due.is("14 n -1", x.round(-1, -1), -1);
        due.is("14 one -3", x.round(0, -3), -1);
        due.is("14 one 2", x.round(0, 2), -1);
        due.is("14 two, LACK", x.round(6, -1), 0);
        due.is("14 two, STORE: 1 a day each", x.round(6, -2), 52);
        due.is("14 two, 0", x.round(6, 0), 1);
        due.is("14 two, 1", x.round(6, 1), 0);
        due.is("14 cares stay as they are", x.of(0, 4), -1);
        x.mend(0, 1, 0);
        due.is("14 it is found anew", x.round(6, -2), 28);
        x.person(35);
        due.is("14 with a third one", x.round(0, -2), 60);
        x.day();
        due.is("14 behind a day", x.round(0, -2), 45);
        x.gives(0, 1, 15);
        due.is("14 behind a gift: one lacks", x.round(0, -1), 1);
        x.mend(2, 3, 99);
        due.is("14 behind a change", x.round(0, -2), 129);
        x.undo();
        due.is("14 undone", x.round(0, -2), 45);
        x.redo();
        due.is("14 done again", x.round(0, -2), 129);
    }

    private static void promise14Anew() {
        ShieldLine x = many(2);
        due.is("14 of two", x.round(0, -2), 40);
        x.person(3);
        due.is("14 of three", x.round(0, -2), 60);
        Due.bytes(x, 0, 1, 1, 1);
        x.people(0, 0, 1);
        due.is("14 of four", x.round(0, -2), 80);
        x.image();
        x.gives(0, 1, 20);
        due.is("14 0 lacks", x.round(0, -1), 1);
        x.back();
        due.is("14 laid back", x.round(0, -1), 0);
        due.is("14 by no law", x.round(1, -2), 80 - 10 + 13 - 2);
        Due.law(x, "0");
        due.is("14 by another law", x.round(1, -2), 70);
    }

    private static void promise14Ends() {
        ShieldLine x = many(2);
        x.mend(0, 3, 0);
        due.is("14 one with nothing gives nothing", x.round(1, -2), 18);
        ShieldLine y = many(8);
        for (int i = 0; i < 8; i++) y.mend(i, 3, 0);
        due.is("14 all eight lack", y.round(6, -1), 8);
        due.is("14 nothing there", y.round(6, -2), 0);
        for (int i = 0; i < 8; i++) due.is("14 the first of all", y.round(6, i), (i + 1) % 8);
    }

    /** Only 2's gift is far above the need, and 0 has nothing: so 2 must care for 0. */
    private static void promise14Choice() {
        ShieldLine x = many(4);
        x.mend(0, 3, 1);
        for (int i = 0; i < 4; i++) x.mend(i, 1, 1);
        x.mend(2, 1, 9);
        due.is("14 LACK", x.round(2, -1), 0);
        due.is("14 2 cares for 0", x.round(2, 2), 0);
        due.is("14 of like ones the first: 0 for 1", x.round(2, 0), 1);
        due.is("14 of like ones the first: 1 for 3", x.round(2, 1), 3);
        due.is("14 of like ones the first: 3 for 2", x.round(2, 3), 2);
        Due.law(x, "9");
        due.is("14 by a law all are alike, the first: 0", x.round(2, 0), 1);
        due.is("14 by a law all are alike, the first: 1", x.round(2, 1), 2);
        due.is("14 by a law all are alike, the first: 2", x.round(2, 2), 3);
        due.is("14 by a law all are alike, the first: 3", x.round(2, 3), 0);
        due.is("14 by a law, STORE", x.round(2, -2), 61 + 48);
        Due.law(x, "(t=1)*d*2+3");
        due.is("14 by the day, STORE: far ones give most", x.round(1, -2), 61);
        due.is("14 by the day, STORE", x.round(2, -2), 61 + 16);
        Due.law(x, "k=1?3;0");
        due.is("14 k is 1", x.round(6, -2), 61);
    }

    private static void promise15Mended() {
        ShieldLine x = new ShieldLine();
        due.is("15 nobody", x.mended(-1), 0);
        due.is("15 BAD", x.mended(0), -1);
        x.person(0);
        due.is("15 alone", x.mended(-1), -2);
        due.is("15 alone, himself", x.mended(0), -2);
        due.is("15 BAD first", x.mended(1), -1);
        due.is("15 one -2", x.mended(-2), -1);
        x.person(1);
        due.is("15 two", x.mended(-1), 2);
        x.mend(0, 4, 1);
        due.is("15 two, one does", x.mended(-1), 1);
        x.mend(1, 4, 0);
        due.is("15 two, both do", x.mended(-1), 0);
        x.person(2);
        due.is("15 a third one: one of the two, and he", x.mended(-1), 2);
        due.is("15 the first by 0", x.mended(0), 1);
        due.is("15 then 1", x.mended(1), 2);
        due.is("15 then 2", x.mended(2), 0);
        x.person(3);
        due.is("15 two pairs", x.mended(-1), 2);
        due.is("15 the pair stays", x.mended(1), 0);
        due.is("15 the other pair", x.mended(2), 3);
        x.mend(0, 4, 3);
        x.mend(1, 4, 3);
        x.mend(2, 4, 3);
        x.mend(3, 4, 2);
        due.is("15 three care for 3", x.mended(-1), 2);
        due.is("15 of like ones the first: 0 for 1", x.mended(0), 1);
        due.is("15 of like ones the first: 1 for 0", x.mended(1), 0);
        due.is("15 of like ones the first: 2 for 3", x.mended(2), 3);
        due.is("15 cares stay as they are", x.of(0, 4), 3);
        ShieldLine y = many(8);
        due.is("15 all eight", y.mended(-1), 8);
        for (int i = 0; i < 8; i++) due.is("15 the first of all", y.mended(i), i ^ 1);
    }

    private static void promise16Gone() {
        ShieldLine x = new ShieldLine();
        due.is("16 nobody", x.gone(0, -1), -2);
        due.is("16 BAD first", x.gone(13, -1), -1);
        for (int i = 0; i < 4; i++) x.person(i);
        for (int i = 0; i < 4; i++) x.mend(i, 3, 6);
        x.mend(0, 5, 9);
        x.mend(2, 4, 0);
        x.mend(0, 4, 1);
        x.mend(1, 4, 2);
        due.is("16 3 alone lacks, 0 gone", x.gone(1, 0), 2);
        due.is("16 only 3, in the ring all have", x.lacking(1), 8);
        due.is("16 3 gone does not count", x.gone(1, 3), 0);
        due.is("16 most", x.gone(1, -1), 0);
        due.is("16 now", x.gone(0, 1), 0);
        x.mend(3, 4, 1);
        due.is("16 3 cares for 1, too: 0 gone hurts 3 alone", x.gone(1, 0), 1);
        due.is("16 most is 1 then", x.gone(1, -1), 1);
        due.is("16 1 gone hurts 2 and 3", x.gone(1, 1), 2);
        due.is("16 now nobody lacks: the least", x.gone(0, -1), 0);
        due.is("16 twelve days", x.gone(12, 0), 3);
        due.is("16 n 13", x.gone(13, 0), -1);
        due.is("16 n -1", x.gone(-1, 0), -1);
        due.is("16 one 4", x.gone(0, 4), -1);
        due.is("16 one -2", x.gone(0, -2), -1);
        due.is("16 all are there still", x.count(0), 4);
        due.is("16 cares stay", x.of(2, 4), 0);
        Due.law(x, "k>1?0;9");
        due.is("16 who is gone does not care: k", x.gone(1, 3), 0);
        ShieldLine y = many(3);
        y.mend(0, 3, 5);
        y.mend(1, 4, 2);
        due.is("16 who cared for him cares for nobody, not for 0", y.gone(1, 2), 1);
    }

    public static void main(String[] args) {
        promise9Later();
        promise9Held();
        promise9Law();
        promise10Lacking();
        promise11First();
        promise12Care();
        promise13Cared();
        promise14Round();
        promise14Anew();
        promise14Ends();
        promise14Choice();
        promise15Mended();
        promise16Gone();
        due.end();
    }
}
