/** Promises 7 and 8: each sentence on the law's text, and on what comes by it, at its boundary and just beside it. */
public final class LawEdgeTest {
    private static final Due due = new Due();
    private static final int BAD = -1;
    private static final String FAULT = "FAULT: the place (from 0) of the first byte with which no TEXT goes on; "
        + "the length, if it ends too early.";
    private static final String BEGINS = "0123456789gdnkst(!-";
    private static final String JOINS = "|&<=>+-*/%";
    // The greatest int, 46340 * 46340 + 88047, as a sum.
    private static final String MOST = "4634*10*4634*10+8804*10+7";

    /** With each byte of next a text goes on behind the beginning, and with no other one. */
    private static void goesOn(String beginning, String next) {
        int length = beginning.length();
        for (int letter = 0; letter <= 255; letter++) {
            int answer = Towns.law(beginning + (char) letter);
            boolean good = next.indexOf(letter) >= 0;
            int early = answer == 1 ? 1 : -100 - length - 1;
            due.is("law of '" + beginning + "' and " + letter, answer, good ? early : -100 - length);
        }
    }

    private static void good(String... texts) {
        for (String text : texts) due.is("law of '" + text + "'", Towns.law(text), 1);
    }

    private static void early(String... texts) {
        for (String text : texts) due.is("law of '" + text + "'", Towns.law(text), -100 - text.length());
    }

    private static void fault(String text, int place) {
        due.is("law of '" + text + "'", Towns.law(text), -100 - place);
    }

    private static void gifts(Object... laws) {
        for (int i = 0; i < laws.length; i += 2) {
            due.is("comes by '" + laws[i] + "'", Towns.gift((String) laws[i]), (Integer) laws[i + 1]);
        }
    }

    // ---- promise 7

    @Edge(promise = 7, says = "THE TAPE becomes THE LAW: 1; -100 less its FAULT; THE TAPE is empty then.")
    static void theTapeIsEmptyThen() {
        ShieldLine x = new ShieldLine();
        due.is("law() of an empty tape", x.law(), -100);
        due.is("law of g", Due.law(x, "g"), 1);
        due.is("count(2)", x.count(2), 0);
        due.is("law() at once again", x.law(), -100);
        due.is("law of g+", Due.law(x, "g+"), -102);
        due.is("count(2) behind a fault", x.count(2), 0);
        due.is("feed(103) behind a fault", x.feed('g'), 1);
        due.is("law() of it", x.law(), 1);
    }

    @Edge(promise = 7, says = "THE TAPE becomes THE LAW: 1; -100 less its FAULT")
    static void aFaultLeavesTheLaw() {
        ShieldLine x = Towns.pair();
        due.is("law of )", Due.law(x, ")"), -100);
        due.is("comes(0) without a law", x.comes(0), 4);
        due.is("law of 9", Due.law(x, "9"), 1);
        due.is("law of 7;8)", Due.law(x, "7;8)"), -103);
        due.is("comes(0) by the law ahead of it", x.comes(0), 9);
        due.is("law() of an empty tape", x.law(), -100);
        due.is("comes(0) by the law ahead of it", x.comes(0), 9);
        due.is("law of 7;8", Due.law(x, "7;8"), 1);
        due.is("comes(0)", x.comes(0), 7);
    }

    @Edge(promise = 7, says = "LINES, one or more, parted by ; .")
    static void linesOneOrMore() {
        early("");
        good("g", "g;g", "g;g;g", "g?g;g?g");
        early("g;", "g;g;", "g?g;");
        fault(";", 0);
        fault(";g", 0);
        fault("g;;g", 2);
        fault("g,g", 1);
        StringBuilder most = new StringBuilder("g");
        for (int i = 0; i < 59; i++) most.append(";g");
        good(most.toString());
        early(most + ";");
    }

    @Edge(promise = 7, says = "LINE: E, or E ? E")
    static void oneQuestionInALine() {
        good("g?g", "g?g;g", "g;g?g", "g?g;g?g");
        early("g?", "g;g?");
        fault("?g", 0);
        fault("g??g", 2);
        fault("g?g?g", 3);
        fault("g?;g", 2);
        fault("g;?g", 2);
        fault("(g?g)", 2);
        fault("g:g", 1);
    }

    @Edge(promise = 7, says = "E = A { | A }. A = B { & B }.")
    static void orAndAndGoOn() {
        good("g|g", "g|g|g|g", "g&g", "g&g&g&g", "g|g&g|g&g");
        early("g|", "g&", "g|g|", "g&g&");
        fault("|g", 0);
        fault("&g", 0);
        fault("g||g", 2);
        fault("g&&g", 2);
        fault("g|&g", 2);
    }

    @Edge(promise = 7, says = "B = S, or S < S, S = S, S > S.")
    static void oneComparison() {
        String signs = "<=>";
        for (char a : signs.toCharArray()) {
            good("g" + a + "g", "g" + a + "g|g" + a + "g", "g" + a + "g&g" + a + "g", "(g" + a + "g)" + a + "g",
                "g" + a + "(g" + a + "g)", "g" + a + "g?g" + a + "g", "g" + a + "g;g" + a + "g");
            early("g" + a);
            fault(a + "g", 0);
            for (char b : signs.toCharArray()) {
                fault("g" + a + "g" + b + "g", 3);
                fault("g" + a + b + "g", 2);
                fault("g" + a + "g+1*2" + b + "g", 7);
                fault("(g" + a + "g" + b + "g)", 4);
                fault("1|g" + a + "g" + b + "g", 5);
            }
        }
    }

    @Edge(promise = 7, says = "S = P { + P, - P }. P = O { * O, / O, % O }.")
    static void sumsAndProductsGoOn() {
        for (char a : "+-*/%".toCharArray()) {
            good("g" + a + "g", "g" + a + "g" + a + "g", "g" + a + "-g", "g" + a + "!g");
            early("g" + a, "g" + a + "-");
            for (char b : "+*/%".toCharArray()) fault("g" + a + b + "g", 2);
            if (a != '-') fault(a + "g", 0);
        }
    }

    @Edge(promise = 7, says = "O = a number (1 to 4 digits), a NAME, ! O, - O, ( E ).")
    static void oneToFourDigits() {
        good("1", "12", "123", "1234", "0", "0000", "9999", "1234+1234");
        fault("12345", 4);
        fault("00000", 4);
        fault("g+12345", 6);
        fault("12345678", 4);
        fault("1234g", 4);
        fault("1g", 1);
        fault("g1", 1);
        fault("(12345", 5);
    }

    @Edge(promise = 7, says = "No blanks.")
    static void noBlanks() {
        for (char blank : " \t\n\r\0".toCharArray()) {
            fault(blank + "g", 0);
            fault("g" + blank, 1);
            fault("g" + blank + "+g", 1);
            fault("g+" + blank + "g", 2);
            fault("1" + blank + "2", 1);
            fault("g;" + blank + "g", 2);
        }
    }

    @Edge(promise = 7, says = {"NAMES: g GIVES,", "d how FAR the one cared for is,", "n NEEDS of that one,",
        "k how many care for that one", "s STORE of him who gives,", "t DAY."})
    static void sixNames() {
        goesOn("", BEGINS);
        for (char name : "gdnkst".toCharArray()) {
            good("" + name);
            fault("" + Character.toUpperCase(name), 0);
            fault("" + name + name, 1);
            goesOn("" + name, JOINS + "?;");
        }
    }

    @Edge(promise = 7, says = "O = a number (1 to 4 digits), a NAME, ! O, - O, ( E ).")
    static void openedAndClosed() {
        good("(g)", "((g))", "!g", "!!g", "-g", "--g", "!-(g)", "g-(g)", "(g)-g");
        early("(", "(g", "((g)", "!", "-", "!(g", "-(");
        fault("()", 1);
        fault(")", 0);
        fault("g)", 1);
        fault("(g))", 3);
        fault("g!", 1);
        fault("g(g)", 1);
        fault("(g)(g)", 3);
        fault("(g;g)", 2);
        fault("!)", 1);
    }

    @Edge(promise = 7, says = "At most 6 of ( ! - ahead of an O are open at once.")
    static void sixOpenAtOnce() {
        good("((((((g))))))", "!!!!!!g", "------g", "(((!!-g)))", "-!(-!(g))", "g-!-!-!-g", "g-(-(-(g)))");
        String[] six = {"((((((", "!!!!!!", "------", "(!-(!-", "-(!-(!", "((((!!"};
        for (String open : six) {
            goesOn(open, "0123456789gdnkst");
            for (char c : "(!-".toCharArray()) fault(open + c + "g", 6);
            for (char c : "(!-".toCharArray()) fault("1;0?7*" + open + c + "g", 12);
        }
        for (String five : new String[] {"(((((", "!!!!!", "-----", "(!-(!"}) goesOn(five, BEGINS);
    }

    @Edge(promise = 7, says = "At most 6 of ( ! - ahead of an O are open at once.")
    static void closedOnesCountNoMore() {
        good("((((((g))))))+((((((g))))))", "!!!!!!g+!!!!!!g", "------g------g-g", "((((((g)+(g))))))",
            "!!!!!(g)+!!!!!(g)", "((((((g))))))?((((((g))))));!!!!!!g", "(((((!g|!g)&!g)))+!!!!!g)");
        fault("(((((!g|!g)&!g)))+!!!!!!g)", 23);
        fault("((((((g)+((g", 10);
        fault("(((((!g+!!g", 9);
        fault("((((((g))))))+(((((((g", 20);
        fault("!!!!!!g+!!!!!!!g", 14);
        fault("g?!!!!!!!g", 8);
        goesOn("((((((g)+", BEGINS);
        goesOn("!!!!!!g+", BEGINS);
        goesOn("(((((!g+", BEGINS);
    }

    @Edge(promise = 7, says = FAULT)
    static void theFirstByteThatDoesNotGoOn() {
        goesOn("1", "0123456789" + JOINS + "?;");
        goesOn("123", "0123456789" + JOINS + "?;");
        goesOn("1234", JOINS + "?;");
        goesOn("g<g", "|&+-*/%?;");
        goesOn("g=1", "0123456789|&+-*/%?;");
        goesOn("g>g|g", JOINS + "?;");
        goesOn("g>g&g", JOINS + "?;");
        goesOn("g>g+g", "|&+-*/%?;");
        goesOn("g?", BEGINS);
        goesOn("g?g", JOINS + ";");
        goesOn("g<g?g", JOINS + ";");
        goesOn("g?g;g", JOINS + "?;");
        goesOn("g;", BEGINS);
        goesOn("(g", JOINS + ")");
        goesOn("(g<g", "|&+-*/%)");
        goesOn("(g)", JOINS + "?;");
        goesOn("(g<g)<g", "|&+-*/%?;");
        goesOn("!", BEGINS);
        goesOn("-", BEGINS);
        goesOn("((g)", JOINS + ")");
        fault("g)g)g", 1);
        fault("))", 0);
    }

    /** A sum of 120 bytes, or of fewer. */
    private static String sum(int bytes, String end) {
        StringBuilder text = new StringBuilder("00");
        while (text.length() + end.length() + 2 <= bytes) text.append("+0");
        if (text.length() + end.length() < bytes) text.insert(0, '0');
        return text.append(end).toString();
    }

    @Edge(promise = 7, says = {FAULT, "THE TAPE (at most 120 bytes)"})
    static void aFullTapeIsRead() {
        good(sum(120, "+0"), sum(119, "+0"));
        fault(sum(120, ")"), 119);
        fault(sum(119, ")"), 118);
        fault(sum(120, "+"), 120);
        fault(sum(119, "+"), 119);
        fault(")" + sum(119, "+0"), 0);
        due.is("comes by 120 bytes", Towns.gift(sum(120, "+7")), 7);
        due.is("comes by 119 bytes", Towns.gift(sum(119, "+7")), 7);
        ShieldLine x = Towns.pair();
        due.is("law of 120 bytes, what is above is refused", Due.law(x, sum(120, "+7") + "+9)"), 1);
        due.is("comes(0)", x.comes(0), 7);
    }

    // ---- promise 8

    @Edge(promise = 8, says = {"PEOPLE 0 .. 7", "(STORE 0, caring for nobody: 0). BAD."})
    static void oneWhoCares() {
        ShieldLine x = Towns.pair();
        int[] bad = {-1, 2, -2, Integer.MIN_VALUE, Integer.MAX_VALUE};
        for (int one : bad) due.is("comes(" + one + ")", x.comes(one), BAD);
        due.is("comes(0)", x.comes(0), 4);
        due.is("comes(1)", x.comes(1), 0);
        due.is("comes(0) without people", new ShieldLine().comes(0), BAD);
        ShieldLine y = Towns.many(8);
        y.mend(7, 4, 0);
        due.is("comes(7)", y.comes(7), 4);
        due.is("comes(8)", y.comes(8), BAD);
    }

    @Edge(promise = 8, says = "(STORE 0, caring for nobody: 0)")
    static void storeZeroOrNobody() {
        ShieldLine x = Towns.pair();
        Due.law(x, "11");
        x.mend(0, 3, 1);
        due.is("comes(0), STORE 1", x.comes(0), 11);
        x.mend(0, 3, 0);
        due.is("comes(0), STORE 0", x.comes(0), 0);
        x.mend(0, 3, 99);
        due.is("comes(0), STORE 99", x.comes(0), 11);
        x.mend(0, 4, -1);
        due.is("comes(0), for nobody", x.comes(0), 0);
        x.mend(1, 4, 0);
        x.mend(0, 3, 0);
        due.is("comes(1), for one with STORE 0", x.comes(1), 11);
    }

    @Edge(promise = 8, says = "It gives how much comes to the one cared for in a day (held within 0 .. 20).")
    static void heldWithinTwenty() {
        gifts("0", 0, "1", 1, "19", 19, "20", 20, "21", 20, "9999", 20, "-1", 0, "-0", 0, "-20", 0, "-9999", 0,
            MOST, 20, MOST + "+1", 0, "-(" + MOST + ")", 0);
    }

    @Edge(promise = 8, says = {"Without a text: g, less d by 2 (cut).", "(held within 0 .. 20)"})
    static void withoutAText() {
        int[] places = {0, 1, 2, 3, 8, 15, 28, 29, 35};
        int[] far = {0, 1, 2, 3, 3, 5, 8, 9, 10};
        for (int i = 0; i < places.length; i++) {
            ShieldLine x = Towns.pair();
            x.mend(1, 0, places[i]);
            for (int gives = 0; gives <= 9; gives++) {
                x.mend(0, 1, gives);
                due.is("comes(0), g " + gives + ", d " + far[i], x.comes(0), Math.max(0, gives - far[i] / 2));
            }
        }
    }

    @Edge(promise = 8, says = "PLACES 0 .. 35: 6 Y and X (FAR: X and Y apart, added).")
    static void howFar() {
        ShieldLine x = Towns.pair();
        Due.law(x, "d");
        int[][] far = {{0, 0, 0}, {35, 35, 0}, {0, 1, 1}, {0, 5, 5}, {0, 6, 1}, {5, 6, 6}, {6, 5, 6}, {11, 12, 6},
            {29, 30, 6}, {0, 30, 5}, {0, 35, 10}, {35, 0, 10}, {5, 30, 10}, {30, 5, 10}, {34, 35, 1}, {29, 35, 1}, {7, 0, 2}};
        for (int[] f : far) {
            x.mend(0, 0, f[0]);
            x.mend(1, 0, f[1]);
            due.is("how far " + f[1] + " is from " + f[0], x.comes(0), f[2]);
        }
    }

    @Edge(promise = 8, says = "k how many care for that one (this one, too)")
    static void thisOneToo() {
        ShieldLine x = Towns.many(8);
        Due.law(x, "k");
        for (int i = 0; i < 7; i++) {
            x.mend(i, 4, 7);
            due.is("comes(0), " + (i + 1) + " care for 7", x.comes(0), i + 1);
        }
        x.mend(6, 3, 0);
        due.is("comes(0), one of the seven has nothing", x.comes(0), 7);
        x.mend(6, 4, 5);
        due.is("comes(0), six care", x.comes(0), 6);
        due.is("comes(6), STORE 0", x.comes(6), 0);
        x.mend(7, 4, 0);
        due.is("comes(7), one cares for 0", x.comes(7), 1);
    }

    @Edge(promise = 8, says = {"s STORE of him who gives, t DAY.", "n NEEDS of that one"})
    static void namesAtTheirEnds() {
        ShieldLine x = Towns.pair();
        int[][] mends = {{0, 3, 99}, {0, 6, 99}, {1, 2, 9}, {0, 1, 9}, {0, 3, 1}, {0, 6, 0}, {1, 2, 0}, {0, 1, 0}};
        String[] laws = {"s-90", "t-90", "n", "g", "s", "t", "n", "g"};
        int[] want = {9, 9, 9, 9, 1, 0, 0, 0};
        for (int i = 0; i < mends.length; i++) {
            x.mend(mends[i][0], mends[i][1], mends[i][2]);
            x.mend(1, 3, 50);
            x.mend(0, 2, 5);
            x.mend(1, 1, 6);
            Due.law(x, laws[i]);
            due.is("comes(0) by " + laws[i], x.comes(0), want[i]);
        }
    }

    @Edge(promise = 8, says = {"(what counts if the first is not 0)",
        "The first LINE without a first E, or whose first E is not 0, counts; none: 0."})
    static void theLineThatCounts() {
        gifts("0?5;6", 6, "1?5;6", 5, "2?5;6", 5, "-1?5;6", 5, "0?5", 0, "0?5;0?6", 0, "0?5;1?6;7", 6, "0?5;0?6;7", 7,
            "5;6", 5, "0;6", 0, "-3;6", 0, "1?0;6", 0, "1?-1;6", 0, "0?5;6;1?7", 6, "1-1?5;6", 6, MOST + "?5;6", 5,
            MOST + "+1?5;6", 5);
    }

    @Edge(promise = 8, says = "O = a number (1 to 4 digits)")
    static void numbersAtTheirEnds() {
        gifts("9999-9980", 19, "0012", 12, "0000", 0, "7", 7, "1000-999", 1, "1234-1220", 14);
    }

    @Edge(promise = 8, says = "Ints that wrap;")
    static void sumsWrap() {
        gifts(MOST + "-2147*1000*1000-483*1000-640", 7, MOST + ">0", 1, MOST + "+1<0", 1, MOST + "+1+" + MOST + "+1+3", 3,
            MOST + "+1-1>0", 1, "-(" + MOST + ")-1<0", 1, "-(" + MOST + ")-2>0", 1, "0-(" + MOST + ")-2=" + MOST, 1,
            "-(-(" + MOST + ")-1)<0", 1, "-(-(" + MOST + "))>0", 1);
    }

    @Edge(promise = 8, says = "Ints that wrap;")
    static void productsWrap() {
        gifts("256*256*256*127>0", 1, "256*256*256*128<0", 1, "256*256*256*256", 0, "256*256*256*256+3", 3,
            "4634*10*4634*10>0", 1, "(4634*10+1)*(4634*10+1)<0", 1, "256*256*256*257=256*256*256", 1,
            "9999*9999*9999*9999%7+7", (9999 * 9999 * 9999 * 9999) % 7 + 7);
    }

    @Edge(promise = 8, says = "/ and % toward 0")
    static void towardZero() {
        gifts("7/2", 3, "-7/2+10", 7, "7/-2+10", 7, "-7/-2", 3, "-6/2+10", 7, "-1/2+3", 3, "1/2", 0,
            "7%2", 1, "-7%2+10", 9, "7%-2+10", 11, "-7%-2+10", 9, "-6%2+10", 10, "-1%2+3", 2,
            "(-(" + MOST + ")-1)/-1<0", 1, "(-(" + MOST + ")-1)%-1+5", 5, "(-(" + MOST + ")-1)/1<0", 1,
            "(-(" + MOST + "))/-1>0", 1);
    }

    @Edge(promise = 8, says = "/ and % toward 0, by 0 they give 0;")
    static void byZero() {
        gifts("5/0+3", 3, "5%0+3", 3, "0/0+3", 3, "0%0+3", 3, "-5/0+3", 3, "5/(g-g)+3", 3, "5%(g-g)+3", 3,
            "5/1+3", 8, "5%1+3", 3, "5/-1+8", 3, "5%2+3", 4, "5%-1+3", 3, "5/0=0", 1, "5%0=0", 1);
    }

    @Edge(promise = 8, says = "| & < = > ! give 1, 0; all is worked out.")
    static void oneOrZero() {
        gifts("0|0", 0, "0|1", 1, "1|0", 1, "2|3", 1, "-1|0", 1, "0|-5", 1,
            "0&0", 0, "0&1", 0, "1&0", 0, "1&1", 1, "2&1", 1, "4&3", 1, "-1&-1", 1,
            "3<4", 1, "4<4", 0, "5<4", 0, "-1<0", 1, "0<-1", 0,
            "3=4", 0, "4=4", 1, "5=4", 0, "0=-0", 1,
            "3>4", 0, "4>4", 0, "5>4", 1, "0>-1", 1,
            "!0", 1, "!1", 0, "!2", 0, "!-1", 0, "!!7", 1, "1|5/0", 1, "0&5/0", 0,
            "(0|0)+5", 5, "(0&0)+5", 5, "(1&0)+5", 5, "(5<4)+5", 5, "(3=4)+5", 5, "(3>4)+5", 5, "!1+5", 5,
            "(0|2)+5", 6, "(2&3)+5", 6, "(3<4)+5", 6, "(4=4)+5", 6, "(5>4)+5", 6, "!0+5", 6);
    }

    @Edge(promise = 8, says = "E = A { | A }. A = B { & B }. B = S, or S < S, S = S, S > S. S = P { + P, - P }. P = O { * O, / O, % O }.")
    static void whatIsWorkedOutAheadOfWhat() {
        gifts("1|0&0", 1, "0&0|1", 1, "(1|0)&0", 0, "1&2<1", 0, "1|2<1", 1, "1+1<2", 0, "2<1+2", 1, "1+2*3", 7, "2*3+1", 7,
            "(1+2)*3", 9, "9-3-2", 4, "9-3+2", 8, "8/4/2", 1, "8/4*2", 4, "8%5/3", 1, "9-8/2", 5, "!0+5", 6, "!(0+5)", 0, "-2*3+9", 3);
    }

    @Edge(promise = 8, says = "At most 6 of ( ! - ahead of an O are open at once.")
    static void sixOpenAreWorkedOut() {
        gifts("((((((7))))))", 7, "!!!!!!5", 1, "!!!!!5", 0, "------5", 5, "9------5", 14, "!-(!-(3))", 1,
            "1|0&0<0+1*(1|0&0<0+1*(1|0&0<0+1*(1|0&0<0+1*(1|0&0<0+1*(1|0&0<0+1*(1|0&0<0+1*9))))))", 1,
            "8+1*(7+1*(6+1*(5+1*(4+1*(3+1*(2-9))))))", 20, "9+1*(2*(3-(4-(5-(6-(7-8))))))", 9 - 6);
    }

    @Edge(promise = 8, says = "It gives how much comes to the one cared for in a day")
    static void theLatestLawHolds() {
        ShieldLine x = Towns.pair();
        due.is("comes(0) without a law", x.comes(0), 4);
        Due.law(x, "5");
        due.is("comes(0)", x.comes(0), 5);
        Due.law(x, "0?1;6;7;8");
        due.is("comes(0)", x.comes(0), 6);
        Due.law(x, "g");
        due.is("comes(0), a shorter one", x.comes(0), 4);
        for (char c : "9".toCharArray()) x.feed(c);
        due.is("comes(0), the tape alone is no law", x.comes(0), 4);
    }

    @Edge(promise = 8, says = "What is answered so changes nothing.")
    static void refusedComesChangesNothing() {
        Edges.changesNothing(due, x -> {
            x.comes(-1);
            x.comes(4);
        });
    }

    public static void main(String[] args) throws Exception {
        Edges.run(LawEdgeTest.class, due);
    }
}
