/** Promises 1 to 8: people, their numbers, the tape and the law. */
public final class PeopleTest {
    private static final Due due = new Due();

    private static void promise1NewObject() {
        ShieldLine x = new ShieldLine();
        for (int what = 0; what <= 5; what++) due.is("1 count(" + what + ")", x.count(what), 0);
        for (int what = 0; what <= 4; what++) due.is("1 led(" + what + ")", x.led(what), 0);
        due.is("1 WIND", x.of(0, 5), 2);
        due.is("1 DAY", x.of(0, 6), 0);
        due.is("1 back", x.back(), -5);
        due.is("1 undo", x.undo(), -5);
        due.is("1 redo", x.redo(), -5);
        due.is("1 trace", x.trace(0), -1);
        for (int shelf = 0; shelf <= 5; shelf++) due.is("1 shelf " + shelf, x.taken(shelf, 0), -11);
        due.is("1 law", x.law(), -100);
        ShieldLine y = new ShieldLine();
        y.person(3);
        due.is("1 objects stand apart", x.count(0), 0);
    }

    private static void promise2Person() {
        ShieldLine x = new ShieldLine();
        due.is("2 person(-1)", x.person(-1), -1);
        due.is("2 person(36)", x.person(36), -1);
        due.is("2 refusals change nothing", x.count(0), 0);
        due.is("2 person(35)", x.person(35), 0);
        due.is("2 person(0)", x.person(0), 1);
        due.is("2 at the same place", x.person(0), 2);
        int[] first = {35, 4, 3, 20, -1, 2, 0};
        for (int what = 0; what < 7; what++) due.is("2 of(0, " + what + ")", x.of(0, what), first[what]);
        for (int i = 3; i < 8; i++) due.is("2 the next", x.person(i), i);
        due.is("2 full", x.person(1), -3);
        due.is("2 BAD is named first", x.person(99), -1);
        due.is("2 count", x.count(0), 8);
    }

    private static void promise3People() {
        ShieldLine x = new ShieldLine();
        due.is("3 nothing on the shelf", x.people(0, 0, 1), 0);
        due.is("3 shelf -1", x.people(-1, 0, 1), -1);
        due.is("3 shelf 6", x.people(6, 0, 1), -1);
        due.is("3 n 0", x.people(0, 0, 0), -1);
        due.is("3 n 9", x.people(0, 0, 9), -1);
        x.body(0);
        x.keep(1, 0);
        due.is("3 a shield", x.people(1, 0, 1), -12);
        for (int sort = 1; sort <= 4; sort++) {
            x.row(1, sort, 6);
            due.is("3 a row of sort " + sort, x.people(1, 0, 1), -12);
        }
        due.is("3 BAD first", x.people(1, 0, 9), -1);
        Due.bytes(x, 0, 7, 35, 9, 0, 0, 0, 9, 1, 2);
        due.is("3 at -1", x.people(0, -1, 3), 0);
        due.is("3 at the least int", x.people(0, Integer.MIN_VALUE, 3), 0);
        due.is("3 at the greatest int", x.people(0, Integer.MAX_VALUE, 3), 0);
        due.is("3 behind the end", x.people(0, 9, 3), 0);
        due.is("3 within a three", x.people(0, 7, 3), 0);
        due.is("3 from 1, two of three wanted", x.people(0, 1, 3), 2);
        due.is("3 PLACE of 0", x.of(0, 0), 35);
        due.is("3 GIVES of 0", x.of(0, 1), 9);
        due.is("3 NEEDS of 0", x.of(0, 2), 0);
        due.is("3 STORE of 0", x.of(0, 3), 20);
        due.is("3 CARES of 0", x.of(0, 4), -1);
        due.is("3 NEEDS of 1", x.of(1, 2), 9);
        due.is("3 n bounds", x.people(0, 1, 1), 1);
        int[][] odd = {{36, 0, 0}, {-1, 0, 0}, {0, 10, 0}, {0, -1, 0}, {0, 0, 10}, {0, 0, -1}};
        for (int[] three : odd) {
            Due.bytes(x, 0, three);
            due.is("3 one is not so", x.people(0, 0, 1), 0);
        }
        Due.bytes(x, 0, 1, 1, 1, 36, 1, 1, 2, 2, 2);
        due.is("3 ends at one not so", x.people(0, 0, 3), 1);
        due.is("3 those ahead came", x.count(0), 4);
        x.row(0, 0, 60);
        due.is("3 four till full", x.people(0, 0, 8), 4);
        due.is("3 full: none", x.people(0, 0, 8), 0);
        due.is("3 full", x.count(0), 8);
        due.is("3 none of it is a change", x.count(3), 0);
        ShieldLine y = new ShieldLine();
        Due.bytes(y, 5, 1, 1, 1, 2, 2, 2);
        due.is("3 to the end of the row", y.people(5, 0, 2), 2);
        due.is("3 beyond the end of the row", y.people(5, 3, 2), 1);
        due.is("3 the last of the row", y.of(2, 0), 2);
    }

    private static void promise4Mend() {
        ShieldLine x = new ShieldLine();
        x.person(7);
        x.person(8);
        int[] was = {7, 4, 3, 20, -1, 2, 0};
        int[] most = {35, 9, 9, 99, 1, 9, 99};
        int[] least = {0, 0, 0, 0, -1, 0, 0};
        for (int what = 0; what < 7; what++) {
            due.is("4 below " + what, x.mend(0, what, least[what] - 1), ShieldLine.VOID);
            due.is("4 above " + what, x.mend(0, what, most[what] + 1), ShieldLine.VOID);
            due.is("4 unchanged " + what, x.of(0, what), was[what]);
            due.is("4 most " + what, x.mend(0, what, most[what]), was[what]);
            due.is("4 is " + what, x.of(0, what), most[what]);
            due.is("4 least " + what, x.mend(0, what, least[what]), most[what]);
            due.is("4 is then " + what, x.of(0, what), least[what]);
        }
        due.is("4 the other one stays", x.of(1, 0), 8);
        due.is("4 for himself", x.mend(1, 4, 1), ShieldLine.VOID);
        due.is("4 no such one", x.mend(2, 0, 1), ShieldLine.VOID);
        due.is("4 one -1", x.mend(-1, 0, 1), ShieldLine.VOID);
        due.is("4 WIND of 1", x.mend(1, 5, 1), ShieldLine.VOID);
        due.is("4 DAY of 1", x.mend(1, 6, 1), ShieldLine.VOID);
        due.is("4 what 7", x.mend(0, 7, 1), ShieldLine.VOID);
        due.is("4 what -1", x.mend(0, -1, 1), ShieldLine.VOID);
        due.is("4 cares by mend() are not told", x.led(2), 0);
    }

    private static void promise5Of() {
        ShieldLine x = new ShieldLine();
        due.is("5 WIND without people", x.of(0, 5), 2);
        due.is("5 PLACE without people", x.of(0, 0), ShieldLine.VOID);
        x.person(3);
        x.person(30);
        x.mend(1, 3, 77);
        due.is("5 STORE", x.of(1, 3), 77);
        due.is("5 STORE of 0", x.of(0, 3), 20);
        due.is("5 PLACE", x.of(1, 0), 30);
        due.is("5 WIND of 1", x.of(1, 5), ShieldLine.VOID);
        due.is("5 DAY of 1", x.of(1, 6), ShieldLine.VOID);
        due.is("5 no such one", x.of(2, 0), ShieldLine.VOID);
        due.is("5 one -1", x.of(-1, 0), ShieldLine.VOID);
        due.is("5 what -1", x.of(0, -1), ShieldLine.VOID);
        due.is("5 what 7", x.of(0, 7), ShieldLine.VOID);
    }

    private static void promise6Feed() {
        ShieldLine x = new ShieldLine();
        due.is("6 feed(-1)", x.feed(-1), -1);
        due.is("6 feed(256)", x.feed(256), -1);
        for (int i = 1; i <= 119; i++) due.is("6 feed", x.feed(i % 2 == 0 ? '+' : 'g'), i);
        due.is("6 the last", x.feed(255), 120);
        due.is("6 full", x.feed('g'), -3);
        due.is("6 BAD first", x.feed(256), -1);
        due.is("6 count", x.count(2), 120);
        due.is("6 fault of the last byte", x.law(), -219);
        due.is("6 empty then", x.count(2), 0);
        due.is("6 goes on from the beginning", x.feed(0), 1);
    }

    private static void promise7Faults() {
        Object[] faults = {
            "", 0, "+g", 0, "g+", 2, "g g", 1, "12345", 4, "g2", 1, "2g", 1, "gd", 1,
            "(((((((g", 6, "!!!!!!!g", 6, "-------1", 6, "!-(!-(!g", 6, "!-(!-(-g", 6, "!-(!-((g", 6,
            "g<d<n", 3, "g<d=n", 3, "g>d+1>n", 5, "(g<d<n)", 4, "g?d?n", 3, "(g?d)", 2, "(g;d)", 2,
            "g)", 1, "(g", 2, "()", 1, ";", 0, "g;", 2, "g;;d", 2, "?g", 0, "g?", 2, "g?;", 2, "G", 0,
            "x", 0, " g", 0, "g=", 2, "g==d", 2, "g<=d", 2, "g!d", 1, "g(", 1, "!", 1, "-", 1, "(", 1,
            "g-", 2, "g|", 2, "g||d", 2, "g&&d", 2, "g*/d", 2, "(g))", 3, "g\n", 1, "*g", 0, ")", 0};
        ShieldLine x = new ShieldLine();
        for (int i = 0; i < faults.length; i += 2) {
            if (i % 40 == 0) x = new ShieldLine();
            String t = (String) faults[i];
            due.is("7 law of '" + t + "'", Due.law(x, t), -100 - (Integer) faults[i + 1]);
            due.is("7 empty then", x.count(2), 0);
        }
        String[] good = {"g", "1234", "0000", "((((((g))))))", "!!!!!!g", "------1", "!-(!-(g))",
            "(g)+((((((g))))))", "!g+!!!!!!g", "(g<d)<n", "g<d&n<s|t=k", "g?d;n?s", "g?d;n;s?t", "g--d", "g-!d",
            "-(-(-(g)))", "g<!d", "g+(d<n)*(k>s)", "1?((((((g))))))", "((((((g))))))?g|d;0?!!!!!!g&d"};
        for (int i = 0; i < good.length; i++) {
            if (i % 10 == 0) x = new ShieldLine();
            due.is("7 law of '" + good[i] + "'", Due.law(x, good[i]), 1);
            due.is("7 empty then", x.count(2), 0);
        }
    }

    private static void promise7Law() {
        ShieldLine x = new ShieldLine();
        x.person(0);
        x.person(6);
        x.mend(0, 4, 1);
        due.is("7 no law yet", x.comes(0), 4);
        due.is("7 a law", Due.law(x, "g+2"), 1);
        due.is("7 it holds", x.comes(0), 6);
        due.is("7 a fault", Due.law(x, "g+"), -102);
        due.is("7 the law ahead of it stays", x.comes(0), 6);
        due.is("7 the empty tape", x.law(), -100);
        due.is("7 the law ahead of it stays", x.comes(0), 6);
        due.is("7 another law", Due.law(x, "9"), 1);
        due.is("7 it holds", x.comes(0), 9);
        due.is("7 no change to undo", x.count(3), 1);
        StringBuilder t = new StringBuilder("00");
        for (int i = 0; i < 59; i++) t.append(i < 13 ? "+1" : "-0");
        due.is("7 a law of 120 bytes", Due.law(x, t.toString()), 1);
        due.is("7 it holds", x.comes(0), 13);
    }

    private static void promise8Law() {
        ShieldLine x = new ShieldLine();
        x.person(0);
        x.person(14);
        x.person(35);
        x.mend(0, 1, 7);
        x.mend(0, 2, 1);
        x.mend(1, 2, 6);
        x.mend(0, 3, 15);
        x.mend(0, 4, 1);
        x.mend(2, 4, 1);
        x.mend(0, 6, 9);
        Object[] laws = {
            "g", 7, "d", 4, "n", 6, "k", 2, "s", 15, "t", 9, "1+2*3", 7, "10-2-3", 5, "(1+2)*3", 9,
            "20/3/2", 3, "17%5", 2, "2*7%4", 2, "1|0&0", 1, "(1|0)&0", 0, "5|0", 1, "2&3", 1, "2&0", 0, "1&1", 1, "1&2", 1,
            "0|0", 0, "2<3", 1, "3<2", 0, "3<3", 0, "3>2", 1, "3>3", 0, "3=3", 1, "3=4", 0,
            "1+1=2", 1, "2=1+1", 1, "5>4&4>5", 0, "(2<3)=1", 1, "-3+5", 2, "-7/2+10", 7, "(0-7)%4+10", 7,
            "5/0", 0, "5%0", 0, "3+5/0", 3, "!0", 1, "!5", 0, "!!5", 1, "--5", 5, "!-5", 0, "!g+3", 3};
        check(x, laws);
        ShieldLine y = new ShieldLine();
        y.person(0);
        y.person(1);
        y.mend(0, 4, 1);
        y.mend(0, 6, 9);
        Object[] more = {
            "9999*9999*9999<0", 1, "0?5;0?6", 0, "0?5;7;8", 7, "t=9?3;4", 3,
            "t=8?3;4", 4, "2?5", 5, "0-1?5;6", 5, "99", 20, "0-5", 0, "20", 20, "21", 20, "19", 19,
            "0?1;0?2;1?3;1?4", 3, "6;0?1", 6, "9-2*3", 3, "1?0|5", 1, "1?5&0", 0, "8/4*2", 4, "9%4/1", 1, "3-1+1", 3, "0007", 7};
        check(y, more);
    }

    private static void check(ShieldLine x, Object... laws) {
        for (int i = 0; i < laws.length; i += 2) {
            String t = (String) laws[i];
            due.is("8 law of " + t, Due.law(x, t), 1);
            due.is("8 comes by " + t, x.comes(0), (Integer) laws[i + 1]);
        }
    }

    /** 46341 * 46341 wraps below 0; the least int by -1 is the least int, and leaves 0. */
    private static void promise8Wrap() {
        ShieldLine x = new ShieldLine();
        x.person(0);
        x.person(1);
        x.mend(0, 4, 1);
        check(x, "5149*9*(5149*9)<0", 1, "8192*8192*32<0", 1, "8192*8192*32/-1<0", 1, "8192*8192*32%-1", 0,
            "8192*8192*64", 0, "8192*8192*32-1>0", 1, "-(8192*8192*32)<0", 1, "9999*9999*9999/-9999/9999", 10);
    }

    /** As many values as can wait at once: five at each of seven depths. */
    private static void promise8Deep() {
        ShieldLine x = new ShieldLine();
        x.person(0);
        x.person(1);
        x.mend(0, 4, 1);
        StringBuilder t = new StringBuilder("5+2*(");
        for (int i = 0; i < 5; i++) t.append("0|1&1<1+1*(");
        t.append("0|1&1<1+1*g))))))");
        check(x, t.toString(), 7);
        check(x, "0|1&1<1+1*(0|1&1<1+1*(0|1&1<1+1*(0|1&1<1+1*(0|1&1<1+1*(0|1&1<1+1*(0|1&1<1+1*g))))))", 1);
        check(x, "0|1&1<1+1*(0|1&1<1+1*(0|1&1<1+1*(0|1&1<1+1*(0|1&1<1+1*(0|1&1<1+1*(0|1&1<1-1*g))))))", 0);
        check(x, "0|1&1<1*(0|1&1<1+1*(0|1&1<1+1*(0|1&1<1+1*(0|1&1<1+1*(0|1&1<1+1*(0|1&1<1+1*g))))))", 0);
    }

    /** As many lines, and as many steps, as the tape can hold. */
    private static void promise8Long() {
        ShieldLine x = new ShieldLine();
        x.person(0);
        x.person(1);
        x.mend(0, 4, 1);
        StringBuilder t = new StringBuilder();
        for (int i = 0; i < 29; i++) t.append("0?1;");
        check(x, t + "1?4", 4);
        check(x, t + "2?!4", 0);
        StringBuilder u = new StringBuilder("9");
        for (int i = 0; i < 59; i++) u.append(";8");
        check(x, u.toString(), 9);
    }

    private static void promise8Far() {
        ShieldLine x = new ShieldLine();
        x.person(0);
        x.person(0);
        x.mend(0, 4, 1);
        Due.law(x, "d");
        int[][] far = {{0, 0, 0}, {13, 34, 6}, {34, 13, 6}, {5, 30, 10}, {30, 5, 10}, {0, 35, 10}, {35, 0, 10},
            {11, 6, 5}, {6, 11, 5}, {23, 12, 6}, {12, 23, 6}, {7, 8, 1}, {14, 8, 1}, {29, 29, 0}, {20, 15, 2}};
        for (int[] f : far) {
            x.mend(0, 0, f[0]);
            x.mend(1, 0, f[1]);
            due.is("8 how far " + f[0] + " from " + f[1], x.comes(0), f[2]);
        }
    }

    private static void promise8Comes() {
        ShieldLine x = new ShieldLine();
        due.is("8 nobody there", x.comes(0), -1);
        x.person(0);
        x.person(35);
        due.is("8 one -1", x.comes(-1), -1);
        due.is("8 one 2", x.comes(2), -1);
        due.is("8 for nobody", x.comes(0), 0);
        x.mend(0, 4, 1);
        due.is("8 4 less 10 by 2, held", x.comes(0), 0);
        x.mend(0, 1, 9);
        due.is("8 9 less 10 by 2", x.comes(0), 4);
        x.mend(1, 0, 29);
        due.is("8 9 less 9 by 2, cut", x.comes(0), 5);
        x.mend(0, 3, 0);
        due.is("8 STORE 0", x.comes(0), 0);
        x.mend(0, 3, 1);
        due.is("8 STORE 1", x.comes(0), 5);
        Due.law(x, "s=1?11;12");
        due.is("8 s is the giver's", x.comes(0), 11);
        x.mend(0, 3, 0);
        due.is("8 STORE 0 by a law", x.comes(0), 0);
    }

    public static void main(String[] args) {
        promise1NewObject();
        promise2Person();
        promise3People();
        promise4Mend();
        promise5Of();
        promise6Feed();
        promise7Faults();
        promise7Law();
        promise8Law();
        promise8Wrap();
        promise8Deep();
        promise8Long();
        promise8Far();
        promise8Comes();
        due.end();
    }
}
