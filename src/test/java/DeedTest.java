/** Promises 23 to 30: days and gifts in deed, what is led, the image, changes undone. */
public final class DeedTest {
    private static final Due due = new Due();

    private static ShieldLine many(int n) {
        ShieldLine x = new ShieldLine();
        for (int i = 0; i < n; i++) x.person(i);
        return x;
    }

    private static void promise23Day() {
        ShieldLine x = many(3);
        x.mend(0, 4, 1);
        x.mend(2, 3, 5);
        due.is("23 2 lacks", x.day(), 1);
        due.is("23 STORE of 0", x.of(0, 3), 15);
        due.is("23 STORE of 1", x.of(1, 3), 21);
        due.is("23 STORE of 2", x.of(2, 3), 0);
        due.is("23 DAY", x.of(0, 6), 1);
        due.is("23 GIVES stay", x.of(0, 1), 4);
        due.is("23 that LACK", x.count(1), 1);
        due.is("23 no change to undo", x.count(3), 2);
        x.mend(0, 6, 98);
        x.day();
        due.is("23 DAY 99", x.of(0, 6), 99);
        due.is("23 still 2 alone", x.day(), 1);
        due.is("23 DAY 99 stays", x.of(0, 6), 99);
        due.is("23 days led go on", x.led(0), 3);
        due.is("23 0, too", x.day(), 2);
        ShieldLine y = many(3);
        y.mend(0, 4, 1);
        y.mend(1, 4, 2);
        y.mend(2, 4, 0);
        y.mend(1, 3, 0);
        due.is("23 all at once, as they stand ahead", y.day(), 0);
        due.is("23 1 had nothing, so nothing came to 2", y.of(2, 3), 17);
        due.is("23 1 has what 0 gave", y.of(1, 3), 1);
        due.is("23 nobody", new ShieldLine().day(), 0);
    }

    private static void promise24Cares() {
        ShieldLine x = many(2);
        due.is("24 for 1", x.cares(0, 1), -1);
        due.is("24 it is so", x.of(0, 4), 1);
        due.is("24 again", x.cares(0, 1), 1);
        due.is("24 for nobody", x.cares(0, -1), 1);
        due.is("24 it is so", x.of(0, 4), -1);
        due.is("24 cares told, three times", x.led(2), 3);
        due.is("24 for himself", x.cares(0, 0), ShieldLine.VOID);
        due.is("24 for no such one", x.cares(0, 2), ShieldLine.VOID);
        due.is("24 for -2", x.cares(0, -2), ShieldLine.VOID);
        due.is("24 no such one", x.cares(2, 0), ShieldLine.VOID);
        due.is("24 one -1", x.cares(-1, 0), ShieldLine.VOID);
        due.is("24 refusals are not told", x.led(2), 3);
        due.is("24 a deed is no change", x.undo(), -5);
    }

    private static void promise25Gives() {
        ShieldLine x = many(2);
        due.is("25 gives 5", x.gives(0, 1, 5), 15);
        due.is("25 the other has it", x.of(1, 3), 25);
        due.is("25 all of it", x.gives(0, 1, 15), 0);
        due.is("25 he has not so much", x.gives(0, 1, 1), -5);
        x.mend(0, 3, 99);
        due.is("25 99, what is above is lost", x.gives(0, 1, 99), 0);
        due.is("25 99 at most there", x.of(1, 3), 99);
        due.is("25 given, as told", x.led(3), 119);
        due.is("25 v 0", x.gives(1, 0, 0), -1);
        due.is("25 v 100", x.gives(1, 0, 100), -1);
        due.is("25 v -1", x.gives(1, 0, -1), -1);
        due.is("25 to himself", x.gives(1, 1, 1), -1);
        due.is("25 to no such one", x.gives(1, 2, 1), -1);
        due.is("25 to -1", x.gives(1, -1, 1), -1);
        due.is("25 no such one", x.gives(2, 0, 1), -1);
        due.is("25 one -1", x.gives(-1, 0, 1), -1);
        due.is("25 refusals give nothing", x.led(3), 119);
        due.is("25 who lacks by a gift did not come to by a day", x.led(4), 0);
        due.is("25 changes: one", x.count(3), 1);
    }

    private static void promise26Led() {
        ShieldLine x = many(3);
        x.cares(0, 1);
        x.cares(2, 1);
        x.mend(1, 3, 99);
        x.mend(2, 3, 5);
        x.day();
        due.is("26 days", x.led(0), 1);
        due.is("26 what came, 4 and 4, though 1 is held at 99", x.led(1), 8);
        due.is("26 cares told", x.led(2), 2);
        due.is("26 given", x.led(3), 0);
        due.is("26 who came to LACK: 2", x.led(4), 1);
        x.day();
        due.is("26 2 lacks still, 4 came", x.led(1), 12);
        due.is("26 who came to LACK: 2 only once", x.led(4), 1);
        x.mend(2, 3, 1);
        x.day();
        due.is("26 2 came to LACK anew", x.led(4), 2);
        due.is("26 what came: 4 and 4 more", x.led(1), 20);
        Due.law(x, "7");
        x.day();
        due.is("26 by the law", x.led(1), 27);
        due.is("26 0, too", x.led(4), 3);
        due.is("26 what 5", x.led(5), -1);
        due.is("26 what -1", x.led(-1), -1);
    }

    private static void promise27Image() {
        ShieldLine x = many(2);
        due.is("27 none ahead of it", x.back(), -5);
        due.is("27 no days", x.image(), 0);
        x.day();
        x.day();
        x.mend(0, 6, 50);
        due.is("27 days, as led", x.image(), 2);
        x.day();
        due.is("27 the latest image holds", x.back(), 2);
        due.is("27 DAY of it", x.of(0, 6), 50);
        due.is("27 STORE of it", x.of(0, 3), 10);
    }

    private static void promise28Back() {
        ShieldLine x = many(2);
        x.cares(0, 1);
        x.gives(0, 1, 3);
        x.mend(0, 1, 6);
        x.image();
        x.day();
        x.cares(0, -1);
        x.cares(1, 0);
        x.gives(1, 0, 9);
        x.mend(0, 1, 8);
        x.mend(0, 2, 1);
        x.mend(0, 5, 7);
        x.mend(0, 0, 33);
        x.person(20);
        x.cares(2, 0);
        x.gives(2, 1, 4);
        due.is("28 back", x.back(), 0);
        due.is("28 STORE of 0", x.of(0, 3), 17);
        due.is("28 STORE of 1", x.of(1, 3), 23);
        due.is("28 CARES of 0", x.of(0, 4), 1);
        due.is("28 CARES of 1", x.of(1, 4), -1);
        due.is("28 DAY", x.of(0, 6), 0);
        int[] led = {0, 0, 1, 3, 0};
        for (int what = 0; what < 5; what++) due.is("28 led " + what, x.led(what), led[what]);
        due.is("28 GIVES as they are", x.of(0, 1), 8);
        due.is("28 NEEDS as they are", x.of(0, 2), 1);
        due.is("28 WIND as it is", x.of(0, 5), 7);
        due.is("28 PLACE as it is", x.of(0, 0), 33);
        due.is("28 who came since is there", x.count(0), 3);
        due.is("28 his STORE as it is", x.of(2, 3), 16);
        due.is("28 his CARES as they are", x.of(2, 4), 0);
        due.is("28 CHANGES stay", x.count(3), 5);
        x.day();
        due.is("28 the image is kept", x.back(), 0);
        due.is("28 STORE of 0 again", x.of(0, 3), 17);
        due.is("28 undo goes on", x.undo(), 4);
        due.is("28 PLACE is undone", x.of(0, 0), 0);
    }

    private static void promise29Undo() {
        ShieldLine x = many(2);
        due.is("29 none", x.undo(), -5);
        x.mend(0, 3, 20);
        due.is("29 the same number is none", x.undo(), -5);
        x.mend(0, 3, 50);
        x.mend(1, 4, 0);
        x.mend(0, 5, 4);
        x.mend(0, 6, 8);
        x.mend(0, 6, 100);
        due.is("29 four", x.count(3), 4);
        due.is("29 DAY", x.undo(), 3);
        due.is("29 DAY was", x.of(0, 6), 0);
        due.is("29 WIND", x.undo(), 2);
        due.is("29 WIND was", x.of(0, 5), 2);
        due.is("29 CARES", x.undo(), 1);
        due.is("29 CARES were", x.of(1, 4), -1);
        x.day();
        due.is("29 STORE by a deed", x.of(0, 3), 45);
        due.is("29 STORE, over a deed", x.undo(), 0);
        due.is("29 STORE was", x.of(0, 3), 20);
        due.is("29 none left", x.undo(), -5);
        due.is("29 nothing undone so is led", x.led(2), 0);
        for (int i = 0; i < 45; i++) x.mend(0, 3, 30 + i);
        due.is("29 40 are kept", x.count(3), 40);
        for (int i = 39; i >= 0; i--) due.is("29 undone", x.undo(), i);
        due.is("29 the first five stay", x.of(0, 3), 34);
        due.is("29 none", x.undo(), -5);
    }

    private static void promise30Redo() {
        ShieldLine x = many(2);
        due.is("30 none", x.redo(), -5);
        x.mend(0, 3, 50);
        x.mend(0, 1, 7);
        x.mend(1, 2, 5);
        due.is("30 none undone", x.redo(), -5);
        x.undo();
        x.undo();
        x.undo();
        x.day();
        due.is("30 STORE, over a deed", x.redo(), 2);
        due.is("30 STORE again", x.of(0, 3), 50);
        due.is("30 may be undone", x.count(3), 1);
        x.mend(0, 3, 50);
        x.cares(0, 1);
        due.is("30 neither the same number nor a deed is another", x.redo(), 1);
        due.is("30 GIVES again", x.of(0, 1), 7);
        due.is("30 undo", x.undo(), 1);
        due.is("30 redo", x.redo(), 1);
        x.mend(0, 1, 10);
        due.is("30 a refusal is none", x.redo(), 0);
        due.is("30 none left", x.redo(), -5);
        due.is("30 NEEDS again", x.of(1, 2), 5);
        x.undo();
        x.undo();
        x.mend(0, 5, 3);
        due.is("30 another came behind", x.redo(), -5);
        due.is("30 two may be undone", x.count(3), 2);
        due.is("30 WIND", x.undo(), 1);
        due.is("30 STORE", x.undo(), 0);
        due.is("30 STORE was", x.of(0, 3), 20);
    }

    private static void promise30Forty() {
        ShieldLine x = many(1);
        for (int i = 0; i < 42; i++) x.mend(0, 3, 30 + i);
        for (int i = 0; i < 40; i++) x.undo();
        for (int i = 39; i >= 0; i--) {
            due.is("30 again", x.redo(), i);
            due.is("30 STORE", x.of(0, 3), 71 - i);
        }
        due.is("30 none", x.redo(), -5);
        x.undo();
        x.mend(0, 3, 1);
        due.is("30 forty still", x.count(3), 40);
    }

    /** 45 changes of unlike numbers: the first five are no longer kept. */
    private static void promise30Unlike() {
        ShieldLine x = many(8);
        int[] most = {35, 9, 9, 99};
        int[][] was = new int[45][];
        for (int i = 0; i < 45; i++) {
            int one = i * 5 % 8;
            int what = i * 3 % 4;
            int v = (i * 7 + 1) % (most[what] + 1);
            if (v == x.of(one, what)) v = (v + 1) % (most[what] + 1);
            was[i] = new int[] {one, what, x.of(one, what), v};
            x.mend(one, what, v);
        }
        due.is("30 forty of them", x.count(3), 40);
        for (int i = 44; i >= 5; i--) {
            due.is("30 undone", x.undo(), i - 5);
            due.is("30 it was", x.of(was[i][0], was[i][1]), was[i][2]);
        }
        due.is("30 no more", x.undo(), -5);
        for (int i = 5; i < 45; i++) {
            due.is("30 done again", x.redo(), 44 - i);
            due.is("30 it is", x.of(was[i][0], was[i][1]), was[i][3]);
        }
    }

    public static void main(String[] args) {
        promise23Day();
        promise24Cares();
        promise25Gives();
        promise26Led();
        promise27Image();
        promise28Back();
        promise29Undo();
        promise30Redo();
        promise30Forty();
        promise30Unlike();
        due.end();
    }
}
