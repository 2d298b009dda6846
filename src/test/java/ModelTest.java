import java.util.Random;

/** Runs of drawn calls: the class and the model must answer alike, call by call. */
public final class ModelTest {
    private static final int RUNS = 400;
    // What calls behind the 512th answer is free; a step makes 125 at most.
    private static final int MOST_CALLS = 512 - 125;
    private static Random draws;
    private static int asked;

    private static int near(int least, int most) {
        int span = most - least + 1;
        int pick = draws.nextInt(24);
        if (pick == 0) return least - 1;
        if (pick == 1) return most + 1;
        if (pick == 2) return draws.nextBoolean() ? Integer.MIN_VALUE : Integer.MAX_VALUE;
        if (pick == 3) return draws.nextInt();
        return least + draws.nextInt(span);
    }

    private static String operand(int open) {
        int pick = draws.nextInt(10);
        if (open < 6 && pick == 0) return "!" + operand(open + 1);
        if (open < 6 && pick == 1) return "-" + operand(open + 1);
        if (open < 6 && pick == 2) return "(" + expression(open + 1) + ")";
        if (pick < 5) return "" + draws.nextInt(draws.nextInt(4) == 0 ? 10000 : 12);
        return "" + "gdnkst".charAt(draws.nextInt(6));
    }

    private static String expression(int open) {
        StringBuilder s = new StringBuilder(operand(open));
        boolean compared = false;
        for (int n = draws.nextInt(3); n > 0; n--) {
            char c = "|&<=>+-*/%+-*/".charAt(draws.nextInt(14));
            if ("<=>".indexOf(c) >= 0 && compared) c = '+';
            if ("<=>".indexOf(c) >= 0) compared = true;
            if (c == '|' || c == '&') compared = false;
            s.append(c).append(operand(open));
        }
        return s.toString();
    }

    private static String text() {
        StringBuilder s = new StringBuilder();
        for (int lines = draws.nextInt(3); lines >= 0; lines--) {
            s.append(expression(0));
            if (draws.nextBoolean()) s.append('?').append(expression(0));
            if (lines > 0) s.append(';');
        }
        if (draws.nextInt(4) == 0) {
            int at = draws.nextInt(s.length());
            String odd = "?;()!-|&<=>+*/%gdnkst0123456789 x";
            if (draws.nextBoolean()) s.setCharAt(at, odd.charAt(draws.nextInt(odd.length())));
            else s.insert(at, odd.charAt(draws.nextInt(odd.length())));
        }
        if (draws.nextInt(8) == 0) s.setLength(draws.nextInt(s.length() + 1));
        return s.length() > 120 ? s.substring(0, 120) : s.toString();
    }

    private static int check(String call, long got, long want) {
        asked++;
        if (got == want) return 0;
        System.out.println(call + " answered " + got + ", the model says " + want);
        return 1;
    }

    private static int one(Model m, int least) {
        return least < 0 && draws.nextInt(3) == 0 ? least : near(0, Math.max(0, m.many() - 1));
    }

    private static int people(ShieldLine x, Model m, int pick) {
        switch (pick) {
            case 0: { int a = near(0, 35); return check("person " + a, x.person(a), m.person(a)); }
            case 1: case 2: case 3: {
                int what = near(0, 6);
                int n = what > 4 && draws.nextInt(4) > 0 ? 0 : one(m, 0);
                int[] most = {35, 9, 9, 30, m.many() - 1, 9, 99};
                int v = near(what == 4 ? -1 : 0, Math.max(0, most[Math.max(0, Math.min(6, what))]));
                return check("mend " + n + " " + what + " " + v, x.mend(n, what, v), m.mend(n, what, v));
            }
            case 4: { int n = one(m, 0), what = near(0, 6);
                return check("of " + n + " " + what, x.of(n, what), m.of(n, what)); }
            case 5: { int a = near(0, 255); return check("feed " + a, x.feed(a), m.feed(a)); }
            case 6: {
                if (draws.nextInt(4) > 0) return 0;
                int wrong = check("law", x.law(), m.law());
                String t = text();
                for (char c : t.toCharArray()) wrong += check("feed " + c, x.feed(c), m.feed(c));
                return wrong + check("law of " + t, x.law(), m.law());
            }
            case 7: { int n = one(m, 0); return check("comes " + n, x.comes(n), m.comes(n)); }
            case 8: { int s = near(0, 5), i = near(0, 12), n = near(1, 8);
                return draws.nextInt(3) > 0 ? 0
                    : check("people " + s + " " + i + " " + n, x.people(s, i, n), m.people(s, i, n)); }
            default: { int a = near(0, 5); return check("count " + a, x.count(a), m.count(a)); }
        }
    }

    private static int thought(ShieldLine x, Model m, int pick) {
        int o = one(m, -1);
        switch (pick) {
            case 0: { int n = near(0, 40); return check("later " + n + " " + o, x.later(n, o), m.later(n, o)); }
            case 1: { int n = near(0, 40); return check("lacking " + n, x.lacking(n), m.lacking(n)); }
            case 2: return check("first " + o, x.first(o), m.first(o));
            case 3: { int w = near(0, 1); return check("care " + o + " " + w, x.care(o, w), m.care(o, w)); }
            case 4: { int w = near(0, 1); return check("cared " + w, x.cared(w), m.cared(w)); }
            case 5: {
                if (m.many() > 6 && draws.nextInt(12) > 0) return 0;
                int n = near(0, 6);
                if (draws.nextInt(4) == 0) o = -2;
                return check("round " + n + " " + o, x.round(n, o), m.round(n, o));
            }
            case 6: return check("mended " + o, x.mended(o), m.mended(o));
            default: { int n = near(0, 12); return check("gone " + n + " " + o, x.gone(n, o), m.gone(n, o)); }
        }
    }

    /** A row of stores that is so, or nearly: else few rows would fit. */
    private static int tellStores(ShieldLine x, Model m) {
        if (m.many() == 0) return 0;
        int shelf = draws.nextInt(6), n = draws.nextInt(5), one = draws.nextInt(m.many());
        int wrong = check("row", x.row(shelf, 0, n), m.row(shelf, 0, n));
        for (int i = 0; i < n; i++) {
            int v = m.later(i, one) + (draws.nextInt(12) == 0 ? 1 : 0);
            wrong += check("put", x.put(shelf, i, v), m.put(shelf, i, v));
        }
        wrong += check("judge so", x.judge(shelf, one), m.judge(shelf, one));
        int ab = 10 * one + draws.nextInt(m.many());
        for (int what = 0; what <= 2; what++) {
            wrong += check("fits so " + ab, x.fits(shelf, ab, what), m.fits(shelf, ab, what));
        }
        return wrong;
    }

    private static int stores(ShieldLine x, Model m, int pick) {
        int o = one(m, -1), s = near(0, 5);
        switch (pick) {
            case 0: return check("judge " + s + " " + o, x.judge(s, o), m.judge(s, o));
            case 1: {
                int ab = draws.nextInt(5) == 0 ? near(0, 77) : 10 * one(m, 0) + one(m, 0);
                int w = near(0, 2);
                return check("fits " + s + " " + ab + " " + w, x.fits(s, ab, w), m.fits(s, ab, w));
            }
            case 2: { int p = near(0, 1); return check("can " + s + " " + p, x.can(s, p), m.can(s, p)); }
            case 3: { int v = near(0, 9999); return check("paid " + o + " " + v, x.paid(o, v), m.paid(o, v)); }
            case 4: {
                int nt = draws.nextInt(6) == 0 ? near(10, 36) : 10 * near(1, 3) + draws.nextInt(7);
                if (nt >= 30 && draws.nextInt(4) > 0) return 0;
                int w = near(0, 1);
                return check("byTurns " + nt + " " + w, x.byTurns(nt, w), m.byTurns(nt, w));
            }
            case 5: {
                int seed = draws.nextInt(), nm = draws.nextInt(6) == 0 ? near(0, 3040) : 100 * near(1, 4) + near(1, 40);
                return check("drawn " + seed + " " + nm + " " + o, x.drawn(seed, nm, o), m.drawn(seed, nm, o));
            }
            default: return tellStores(x, m);
        }
    }

    private static int deeds(ShieldLine x, Model m, int pick) {
        int o = one(m, 0), p = one(m, -1);
        switch (pick) {
            case 0: case 1: return check("day", x.day(), m.day());
            case 2: case 3: return check("cares " + o + " " + p, x.cares(o, p), m.cares(o, p));
            case 4: { int v = draws.nextBoolean() ? near(1, 99) : near(1, 9);
                return check("gives " + o + " " + p + " " + v, x.gives(o, p, v), m.gives(o, p, v)); }
            case 5: { int w = near(0, 4); return check("led " + w, x.led(w), m.led(w)); }
            case 6: return draws.nextInt(3) > 0 ? 0 : check("image", x.image(), m.image());
            case 7: return draws.nextInt(3) > 0 ? 0 : check("back", x.back(), m.back());
            case 8: return check("undo", x.undo(), m.undo());
            default: return check("redo", x.redo(), m.redo());
        }
    }

    private static int acts(ShieldLine x, Model m, int pick) {
        int s = near(0, 5), b = near(-1, Math.max(0, m.bodies.size() - 1));
        switch (pick) {
            case 0: { int k = near(0, 7); return check("body " + k, x.body(k), m.body(k)); }
            case 1: case 2: {
                int a = near(0, 3), v = draws.nextBoolean() ? draws.nextInt() : near(-5, 5);
                int wrong = check("act " + b + " " + a + " " + v, x.act(b, a, v), m.act(b, a, v));
                wrong += check("count 5", x.count(5), m.count(5));
                for (int i = -1; i < 25; i++) wrong += check("trace " + i, x.trace(i), m.trace(i));
                return wrong;
            }
            case 3: return check("keep " + s + " " + b, x.keep(s, b), m.keep(s, b));
            case 4: { int sort = draws.nextInt(2) == 0 ? 0 : near(0, 4), n = near(0, 60);
                return check("row " + s + " " + sort + " " + n, x.row(s, sort, n), m.row(s, sort, n)); }
            case 5: case 6: case 7: {
                int i = draws.nextInt(3) > 0 ? near(0, 6) : near(0, 59);
                long v = draws.nextInt(3) > 0 ? near(0, 9) : draws.nextInt(3) == 0 ? draws.nextInt(3) : draws.nextLong();
                return check("put " + s + " " + i + " " + v, x.put(s, i, v), m.put(s, i, v));
            }
            case 8: { int i = near(0, 12); return check("element " + s + " " + i, x.element(s, i), m.element(s, i)); }
            case 9: {
                int o = near(0, 5), i = near(0, 9), j = near(0, 9), n = near(0, 9);
                return check("shift " + s + " " + i + " " + o + " " + j + " " + n,
                    x.shift(s, i, o, j, n), m.shift(s, i, o, j, n));
            }
            default: { int k = near(0, 7); return check("taken " + s + " " + k, x.taken(s, k), m.taken(s, k)); }
        }
    }

    private static int run(int seed) {
        draws = new Random(seed);
        asked = 0;
        ShieldLine x = new ShieldLine();
        Model m = new Model();
        int calls = 60 + draws.nextInt(240);
        int most = draws.nextInt(9);
        for (int i = 0; i < most; i++) {
            int place = draws.nextInt(36);
            if (check("person", x.person(place), m.person(place)) > 0) return 1;
        }
        for (int i = 0; i < calls && asked <= MOST_CALLS; i++) {
            int group = draws.nextInt(10);
            int wrong = group < 3 ? people(x, m, draws.nextInt(10))
                : group < 5 ? thought(x, m, draws.nextInt(8))
                : group < 6 ? stores(x, m, draws.nextInt(7))
                : group < 8 ? deeds(x, m, draws.nextInt(10))
                : acts(x, m, draws.nextInt(11));
            if (wrong > 0) {
                System.out.println("in run " + seed + ", step " + i);
                return 1;
            }
        }
        return 0;
    }

    public static void main(String[] args) {
        int from = args.length > 0 ? Integer.parseInt(args[0]) : 0;
        int runs = args.length > 1 ? Integer.parseInt(args[1]) : RUNS;
        int wrong = 0;
        for (int seed = from; seed < from + runs && wrong < 5; seed++) wrong += run(seed);
        System.out.println(runs + " drawn runs, " + wrong + " not as due");
        if (wrong > 0) System.exit(1);
    }
}
