import java.math.BigInteger;
import java.util.ArrayList;
import java.util.Arrays;
import java.util.List;

/** The document once more, worked out in other ways than the class does, to be held against it. */
final class Model {
    static final int BAD = -1, NOT = -2, FULL = -3, STATE = -5, VOID = -2000000000;

    static final class State implements Cloneable {
        List<int[]> people = new ArrayList<>(); // place, gives, needs, store, cares
        int wind = 2;
        int day = 0;

        State copy() {
            State s = new State();
            for (int[] p : people) s.people.add(p.clone());
            s.wind = wind;
            s.day = day;
            return s;
        }
    }

    State now = new State();
    StringBuilder tape = new StringBuilder();
    String text = null;
    int[] led = new int[5];
    State picture = null;
    int[] pictureLed = null;
    List<int[]> done = new ArrayList<>();
    List<int[]> undone = new ArrayList<>();
    List<Shield> bodies = new ArrayList<>();
    static List<Integer> trace = new ArrayList<>();
    List<Integer> myTrace = new ArrayList<>();
    Object[] shelves = new Object[6];

    // ---- the law

    static int fault(String t) {
        class Frame { boolean compared, tested; int unary; }
        ArrayList<Frame> frames = new ArrayList<>();
        frames.add(new Frame());
        boolean wantsOperand = true;
        int digits = 0;
        for (int i = 0; i < t.length(); i++) {
            char c = t.charAt(i);
            Frame top = frames.get(frames.size() - 1);
            boolean isDigit = c >= '0' && c <= '9';
            if (wantsOperand) {
                int open = frames.size() - 1;
                for (Frame f : frames) open += f.unary;
                if (c == '(' || c == '!' || c == '-') {
                    if (open == 6) return i;
                    if (c == '(') frames.add(new Frame()); else top.unary++;
                } else if (isDigit) {
                    digits = 1; wantsOperand = false;
                } else if ("gdnkst".indexOf(c) >= 0) {
                    digits = 0; wantsOperand = false;
                } else return i;
                continue;
            }
            if (isDigit) {
                if (digits == 0 || digits == 4) return i;
                digits++;
                continue;
            }
            top.unary = 0;
            wantsOperand = true;
            if (c == '|' || c == '&') top.compared = false;
            else if (c == '<' || c == '=' || c == '>') {
                if (top.compared) return i;
                top.compared = true;
            } else if ("+-*/%".indexOf(c) >= 0) { /* goes on */ }
            else if (c == ')') {
                if (frames.size() == 1) return i;
                frames.remove(frames.size() - 1);
                wantsOperand = false;
                digits = 0;
            } else if (c == '?') {
                if (frames.size() > 1 || top.tested) return i;
                top.tested = true; top.compared = false;
            } else if (c == ';') {
                if (frames.size() > 1) return i;
                top.tested = false; top.compared = false;
            } else return i;
        }
        return wantsOperand || frames.size() > 1 ? t.length() : -1;
    }

    /** The value of a valid E: split at its loosest sign, the rightmost of that kind. */
    static int value(String e, int[] names) {
        String[] kinds = {"|", "&", "<=>", "+-", "*/%"};
        for (String kind : kinds) {
            int depth = 0;
            for (int i = e.length() - 1; i > 0; i--) {
                char c = e.charAt(i);
                if (c == ')') depth++;
                if (c == '(') depth--;
                char before = e.charAt(i - 1);
                boolean binary = before == ')' || Character.isLetterOrDigit(before);
                if (depth == 0 && kind.indexOf(c) >= 0 && binary) {
                    int a = value(e.substring(0, i), names);
                    int b = value(e.substring(i + 1), names);
                    return apply(c, a, b);
                }
            }
        }
        char c = e.charAt(0);
        if (c == '!') return value(e.substring(1), names) == 0 ? 1 : 0;
        if (c == '-') return -value(e.substring(1), names);
        if (c == '(') return value(e.substring(1, e.length() - 1), names);
        int name = "gdnkst".indexOf(c);
        return name >= 0 ? names[name] : Integer.parseInt(e);
    }

    static int apply(char c, int a, int b) {
        switch (c) {
            case '|': return a != 0 | b != 0 ? 1 : 0;
            case '&': return a != 0 & b != 0 ? 1 : 0;
            case '<': return a < b ? 1 : 0;
            case '=': return a == b ? 1 : 0;
            case '>': return a > b ? 1 : 0;
            case '+': return a + b;
            case '-': return a - b;
            case '*': return (int) ((long) a * b);
            case '/': return b == 0 ? 0 : (int) ((long) a / b);
            default: return b == 0 ? 0 : (int) ((long) a % b);
        }
    }

    static int lawValue(String text, int[] names) {
        for (String line : text.split(";")) {
            int q = line.indexOf('?');
            if (q < 0) return value(line, names);
            if (value(line.substring(0, q), names) != 0) return value(line.substring(q + 1), names);
        }
        return 0;
    }

    static int clamp(int v, int most) {
        return Math.max(0, Math.min(most, v));
    }

    static int carers(State s, int one) {
        int k = 0;
        for (int[] p : s.people) if (p[4] == one) k++;
        return k;
    }

    int giftOf(State s, int one) {
        int[] p = s.people.get(one);
        if (p[4] < 0 || p[3] == 0) return 0;
        int[] q = s.people.get(p[4]);
        int d = Math.abs(p[0] / 6 - q[0] / 6) + Math.abs(p[0] % 6 - q[0] % 6);
        int v = text == null ? p[1] - d / 2
            : lawValue(text, new int[] {p[1], d, q[2], carers(s, p[4]), p[3], s.day});
        return clamp(v, 20);
    }

    /** The day passes: what came in all. */
    int pass(State s) {
        State old = s.copy();
        int all = 0;
        for (int j = 0; j < s.people.size(); j++) {
            int v = old.people.get(j)[3];
            for (int i = 0; i < s.people.size(); i++) {
                if (old.people.get(i)[4] == j) {
                    v += giftOf(old, i);
                    all += giftOf(old, i);
                }
            }
            v -= old.people.get(j)[2];
            if (carers(old, j) == 0) v -= old.wind;
            s.people.get(j)[3] = clamp(v, 99);
        }
        s.day = Math.min(99, s.day + 1);
        return all;
    }

    State behind(State s, int n) {
        State t = s.copy();
        for (int i = 0; i < n; i++) pass(t);
        return t;
    }

    static int lack(State s) {
        int n = 0;
        for (int[] p : s.people) if (p[3] == 0) n++;
        return n;
    }

    static int total(State s) {
        int n = 0;
        for (int[] p : s.people) n += p[3];
        return n;
    }

    int many() { return now.people.size(); }

    boolean is(int one) { return one >= 0 && one < many(); }

    // ---- people

    int person(int place) {
        if (place < 0 || place > 35) return BAD;
        if (many() == 8) return FULL;
        now.people.add(new int[] {place, 4, 3, 20, -1});
        return many() - 1;
    }

    int people(int shelf, int i, int n) {
        if (shelf < 0 || shelf > 5 || n < 1 || n > 8) return BAD;
        if (shelves[shelf] == null) return 0;
        if (!(shelves[shelf] instanceof byte[])) return -12;
        byte[] row = (byte[]) shelves[shelf];
        int came = 0;
        for (long at = i; came < n; at += 3) {
            if (at < 0 || at + 2 >= row.length || many() == 8) break;
            int a = row[(int) at], b = row[(int) at + 1], c = row[(int) at + 2];
            if (a < 0 || a > 35 || b < 0 || b > 9 || c < 0 || c > 9) break;
            now.people.add(new int[] {a, b, c, 20, -1});
            came++;
        }
        return came;
    }

    int of(int number, int what) {
        if (what == 5 && number == 0) return now.wind;
        if (what == 6 && number == 0) return now.day;
        if (what < 0 || what > 4 || !is(number)) return VOID;
        return now.people.get(number)[what];
    }

    void set(int number, int what, int v) {
        if (what == 5) now.wind = v;
        else if (what == 6) now.day = v;
        else now.people.get(number)[what] = v;
    }

    int mend(int number, int what, int v) {
        int was = of(number, what);
        if (was == VOID) return VOID;
        int[] most = {35, 9, 9, 99, many() - 1, 9, 99};
        if (v < (what == 4 ? -1 : 0) || v > most[what] || what == 4 && v == number) return VOID;
        if (was == v) return was;
        done.add(new int[] {number, what, was, v});
        if (done.size() > 40) done.remove(0);
        undone.clear();
        set(number, what, v);
        return was;
    }

    int feed(int letter) {
        if (letter < 0 || letter > 255) return BAD;
        if (tape.length() == 120) return FULL;
        tape.append((char) letter);
        return tape.length();
    }

    int law() {
        String t = tape.toString();
        tape.setLength(0);
        int fault = fault(t);
        if (fault >= 0) return -100 - fault;
        text = t;
        return 1;
    }

    int comes(int one) { return is(one) ? giftOf(now, one) : BAD; }

    // ---- days in thought

    int later(int n, int one) {
        if (n < 0 || n > 40 || one != -1 && !is(one)) return BAD;
        State s = behind(now, n);
        return one == -1 ? total(s) : s.people.get(one)[3];
    }

    int lacking(int n) {
        if (n < 0 || n > 40) return BAD;
        State s = behind(now, n);
        int bits = 0;
        for (int i = 0; i < many(); i++) if (s.people.get(i)[3] == 0) bits += 1 << i;
        return bits;
    }

    int firstOf(int one) {
        for (int n = 0; n <= 40; n++) if (behind(now, n).people.get(one)[3] == 0) return n;
        return NOT;
    }

    int first(int one) {
        if (one != -1) return is(one) ? firstOf(one) : BAD;
        int who = NOT, when = 99;
        for (int i = 0; i < many(); i++) {
            int f = firstOf(i);
            if (f != NOT && f < when) { when = f; who = i; }
        }
        return who;
    }

    int care(int one, int what) {
        if (!is(one) || what < 0 || what > 1) return BAD;
        List<Integer> way = new ArrayList<>();
        int at = one;
        while (at >= 0 && !way.contains(at)) {
            way.add(at);
            at = now.people.get(at)[4];
        }
        if (what == 0) return at >= 0 ? NOT : way.get(way.size() - 1);
        return at == one ? way.size() : NOT;
    }

    int cared(int what) {
        if (what < 0 || what > 1) return BAD;
        int bits = 0;
        for (int i = 0; i < many(); i++) {
            int k = carers(now, i);
            if (what == 0 ? k == 0 : k >= 2) bits += 1 << i;
        }
        return bits;
    }

    static void permutations(int[] row, int from, List<int[]> all) {
        if (from >= row.length) { all.add(row.clone()); return; }
        for (int i = from; i < row.length; i++) {
            int x = row[from]; row[from] = row[i]; row[i] = x;
            permutations(row, from + 1, all);
            x = row[from]; row[from] = row[i]; row[i] = x;
        }
    }

    int round(int n, int one) {
        if (n < 0 || n > 6 || one < -2 || one >= 0 && !is(one)) return BAD;
        if (many() < 2) return NOT;
        int[] order = new int[many() - 1];
        for (int i = 0; i < order.length; i++) order[i] = i + 1;
        List<int[]> all = new ArrayList<>();
        permutations(order, 0, all);
        int[] best = null;
        int bestLack = 0, bestTotal = 0;
        for (int[] p : all) {
            int[] whom = new int[many()];
            int at = 0;
            for (int next : p) { whom[at] = next; at = next; }
            whom[at] = 0;
            State s = now.copy();
            for (int i = 0; i < many(); i++) s.people.get(i)[4] = whom[i];
            for (int i = 0; i < n; i++) pass(s);
            int lack = lack(s), total = total(s);
            boolean better = best == null || lack < bestLack || lack == bestLack && total > bestTotal
                || lack == bestLack && total == bestTotal && Arrays.compare(whom, best) < 0;
            if (better) { best = whom; bestLack = lack; bestTotal = total; }
        }
        return one == -1 ? bestLack : one == -2 ? bestTotal : best[one];
    }

    int mended(int one) {
        if (one < -1 || one >= 0 && !is(one)) return BAD;
        int[] order = new int[many()];
        for (int i = 0; i < order.length; i++) order[i] = i;
        List<int[]> all = new ArrayList<>();
        permutations(order, 0, all);
        int[] best = null;
        int fewest = 0;
        for (int[] p : all) {
            int changed = 0;
            boolean self = false;
            for (int i = 0; i < p.length; i++) {
                if (p[i] == i) self = true;
                if (p[i] != now.people.get(i)[4]) changed++;
            }
            if (self) continue;
            if (best == null || changed < fewest || changed == fewest && Arrays.compare(p, best) < 0) {
                best = p;
                fewest = changed;
            }
        }
        if (best == null) return NOT;
        return one == -1 ? fewest : best[one];
    }

    int goneLack(int n, int one) {
        State s = new State();
        s.wind = now.wind;
        s.day = now.day;
        for (int i = 0; i < many(); i++) {
            if (i == one) continue;
            int[] p = now.people.get(i).clone();
            if (p[4] == one) p[4] = -1;
            else if (p[4] > one) p[4]--;
            s.people.add(p);
        }
        return lack(behind(s, n));
    }

    int gone(int n, int one) {
        if (n < 0 || n > 12 || one < -1 || one >= many()) return BAD;
        if (one >= 0) return goneLack(n, one);
        int who = NOT;
        for (int i = many() - 1; i >= 0; i--) {
            if (who == NOT || goneLack(n, i) >= goneLack(n, who)) who = i;
        }
        return who;
    }

    // ---- stores told, the can, pay

    int wrongAt(State s, byte[] row, int one) {
        for (int i = 0; i < row.length && i < 41; i++) {
            if (behind(s, i).people.get(one)[3] != row[i]) return i;
        }
        return NOT;
    }

    int judge(int shelf, int one) {
        if (shelf < 0 || shelf > 5 || !is(one)) return BAD;
        if (shelves[shelf] == null) return -11;
        if (!(shelves[shelf] instanceof byte[])) return -12;
        return wrongAt(now, (byte[]) shelves[shelf], one);
    }

    int fits(int shelf, int ab, int what) {
        if (shelf < 0 || shelf > 5 || ab < 0 || !is(ab / 10) || !is(ab % 10) || what < 0 || what > 2) return BAD;
        if (shelves[shelf] == null) return -11;
        if (!(shelves[shelf] instanceof byte[])) return -12;
        byte[] row = (byte[]) shelves[shelf];
        int found = 0, least = NOT, bits = 0;
        for (int g = 9; g >= 0; g--) {
            State s = now.copy();
            s.people.get(ab % 10)[1] = g;
            if (wrongAt(s, row, ab / 10) == NOT) { found++; least = g; }
        }
        for (int c = -1; c < many(); c++) {
            if (c == ab % 10) continue;
            State s = now.copy();
            s.people.get(ab % 10)[4] = c;
            if (wrongAt(s, row, ab / 10) == NOT) bits += c < 0 ? 256 : 1 << c;
        }
        return what == 0 ? found : what == 1 ? least : bits;
    }

    long can(int shelf, int part) {
        if (shelf < 0 || shelf > 5 || part < 0 || part > 1) return Long.MIN_VALUE;
        if (!(shelves[shelf] instanceof byte[])) return Long.MIN_VALUE;
        BigInteger some = BigInteger.ONE, none = BigInteger.ONE;
        byte[] row = (byte[]) shelves[shelf];
        for (int i = 0; i < row.length && i < 30; i++) {
            if (row[i] != 0 && row[i] != 1) break;
            some = some.multiply(BigInteger.valueOf(row[i] == 1 ? 9 : 3));
            none = none.multiply(BigInteger.valueOf(row[i] == 1 ? 3 : 9));
        }
        BigInteger all = some.add(none);
        BigInteger by = some.gcd(all);
        return (part == 0 ? some : all).divide(by).longValueExact();
    }

    int paid(int one, int v) {
        if (!is(one) || v < 0 || v > 9999) return BAD;
        int sum = 0, mine = 0;
        for (int i = 0; i < many(); i++) {
            int whom = now.people.get(i)[4];
            if (whom < 0 || carers(now, whom) != 1) continue;
            sum += now.people.get(i)[1];
            if (i == one) mine = now.people.get(i)[1];
        }
        return sum == 0 ? 0 : v * mine / sum;
    }

    int[] turn(State s, int left, int t, boolean wind) {
        if (left == 0) return new int[] {lack(behind(s, t)), 8};
        int[] best = {turn(s, left - 1, t, !wind)[0], 8};
        for (int i = 0; i < many(); i++) {
            State u = s.copy();
            int[] p = u.people.get(i);
            if (wind) p[3] = Math.max(0, p[3] - 5);
            else if (many() > 1) {
                do { p[4] = p[4] + 1 == many() ? 0 : p[4] + 1; } while (p[4] == i);
            }
            int v = turn(u, left - 1, t, !wind)[0];
            if (wind ? v > best[0] : v < best[0]) best = new int[] {v, i};
        }
        return best;
    }

    int byTurns(int nt, int what) {
        if (nt < 0 || nt / 10 < 1 || nt / 10 > 3 || nt % 10 > 6 || what < 0 || what > 1) return BAD;
        return turn(now, nt / 10, nt % 10, false)[what];
    }

    int drawn(int seed, int nm, int one) {
        int n = nm / 100, m = nm % 100;
        if (nm < 0 || n < 1 || n > 30 || m < 1 || m > 40 || one < -1 || one >= many()) return BAD;
        if (many() == 0) return 0;
        int z = seed, lack = 0, store = 0;
        for (int w = 0; w < n; w++) {
            State s = now.copy();
            for (int d = 0; d < m; d++) {
                z = (int) (z * 1103515245L + 12345L);
                int[] p = s.people.get((z >>> 8) % many());
                p[3] = Math.max(0, p[3] - (z >>> 16) % 10);
                pass(s);
            }
            lack += lack(s);
            if (one >= 0) store += s.people.get(one)[3];
        }
        return one < 0 ? lack : store;
    }

    // ---- in deed

    int day() {
        State old = now.copy();
        led[0]++;
        led[1] += pass(now);
        for (int i = 0; i < many(); i++) {
            if (old.people.get(i)[3] > 0 && now.people.get(i)[3] == 0) led[4]++;
        }
        return lack(now);
    }

    int cares(int one, int whom) {
        if (!is(one) || whom != -1 && !is(whom) || whom == one) return VOID;
        int was = now.people.get(one)[4];
        now.people.get(one)[4] = whom;
        led[2]++;
        return was;
    }

    int gives(int one, int whom, int v) {
        if (!is(one) || !is(whom) || one == whom || v < 1 || v > 99) return BAD;
        int[] p = now.people.get(one), q = now.people.get(whom);
        if (p[3] < v) return STATE;
        p[3] -= v;
        q[3] = clamp(q[3] + v, 99);
        led[3] += v;
        return p[3];
    }

    int led(int what) { return what < 0 || what > 4 ? BAD : led[what]; }

    int image() {
        picture = now.copy();
        pictureLed = led.clone();
        return led[0];
    }

    int back() {
        if (picture == null) return STATE;
        for (int i = 0; i < picture.people.size(); i++) {
            now.people.get(i)[3] = picture.people.get(i)[3];
            now.people.get(i)[4] = picture.people.get(i)[4];
        }
        now.day = picture.day;
        led = pictureLed.clone();
        return led[0];
    }

    int undo() {
        if (done.isEmpty()) return STATE;
        int[] c = done.remove(done.size() - 1);
        undone.add(c);
        set(c[0], c[1], c[2]);
        return done.size();
    }

    int redo() {
        if (undone.isEmpty()) return STATE;
        int[] c = undone.remove(undone.size() - 1);
        done.add(c);
        set(c[0], c[1], c[3]);
        return undone.size();
    }

    // ---- acts: the machine's own way of finding bodies

    interface Bears {
        int n();
        default int bears(int x) { trace.add(1); return x + n(); }
    }

    interface Tells {
        int cares(int x);
        int lacks(int x);
        default int tells(int x) { trace.add(2); return cares(x) - lacks(1); }
    }

    static class Shield implements Bears, Tells {
        int number, kind;
        public int n() { return number; }
        public int cares(int x) { trace.add(10); return bears(x) * 2; }
        public int lacks(int x) { trace.add(11); return x ^ n(); }
    }

    static class Roof extends Shield {
        public int bears(int x) { trace.add(20); return super.bears(x) + 3; }
    }

    static class Lamp extends Shield {
        public int cares(int x) { trace.add(30); return -super.cares(x); }
    }

    static class Post extends Lamp {
        public int lacks(int x) { trace.add(40); return super.lacks(x) * 3; }
        public int cares(int x) { trace.add(41); return super.cares(x + 1); }
    }

    static class Widow extends Roof {
        public int lacks(int x) { trace.add(50); return super.lacks(x) - bears(2); }
    }

    static class Can extends Post {
        public int tells(int x) { trace.add(60); return super.tells(x) ^ 5; }
    }

    static class Kiln extends Shield {
        public int bears(int x) { trace.add(70); return super.bears(x) * 2; }
    }

    static class Hill extends Widow {
        public int cares(int x) { trace.add(80); return super.cares(x) + lacks(2); }
        public int tells(int x) { trace.add(81); return super.tells(x) - 1; }
    }

    static final Class<?>[] KINDS = {Shield.class, Roof.class, Lamp.class, Post.class,
        Widow.class, Can.class, Kiln.class, Hill.class};

    static Shield make(int kind) {
        switch (kind) {
            case 0: return new Shield();
            case 1: return new Roof();
            case 2: return new Lamp();
            case 3: return new Post();
            case 4: return new Widow();
            case 5: return new Can();
            case 6: return new Kiln();
            default: return new Hill();
        }
    }

    int body(int kind) {
        if (kind < 0 || kind > 7) return BAD;
        if (bodies.size() == 50) return FULL;
        Shield s = make(kind);
        s.number = bodies.size();
        s.kind = kind;
        bodies.add(s);
        return s.number;
    }

    int act(int body, int act, int x) {
        trace = myTrace;
        trace.clear();
        if (body < 0 || body >= bodies.size() || act < 0 || act > 3) return 0;
        Shield s = bodies.get(body);
        return act == 0 ? s.bears(x) : act == 1 ? s.cares(x) : act == 2 ? s.lacks(x) : s.tells(x);
    }

    int trace(int i) { return i < 0 || i >= 24 || i >= myTrace.size() ? BAD : myTrace.get(i); }

    // ---- shelves

    int keep(int shelf, int body) {
        if (shelf < 0 || shelf > 5 || body < -1 || body >= bodies.size()) return BAD;
        shelves[shelf] = body < 0 ? null : bodies.get(body);
        return 1;
    }

    int row(int shelf, int sort, int n) {
        if (shelf < 0 || shelf > 5 || sort < 0 || sort > 4 || n > 60) return BAD;
        if (n < 0) return -14;
        shelves[shelf] = sort == 0 ? new byte[n] : sort == 1 ? new short[n] : sort == 2 ? new int[n]
            : sort == 3 ? new long[n] : (Object) new boolean[n];
        return 1;
    }

    int elementRefusal(int shelf, int i) {
        if (shelf < 0 || shelf > 5) return BAD;
        if (shelves[shelf] == null) return -11;
        if (shelves[shelf] instanceof Shield) return -12;
        return i < 0 || i >= java.lang.reflect.Array.getLength(shelves[shelf]) ? -13 : 0;
    }

    int put(int shelf, int i, long v) {
        int no = elementRefusal(shelf, i);
        if (no != 0) return no;
        Object row = shelves[shelf];
        if (row instanceof byte[]) ((byte[]) row)[i] = (byte) v;
        else if (row instanceof short[]) ((short[]) row)[i] = (short) v;
        else if (row instanceof int[]) ((int[]) row)[i] = (int) v;
        else if (row instanceof long[]) ((long[]) row)[i] = v;
        else ((boolean[]) row)[i] = v != 0;
        return 1;
    }

    long element(int shelf, int i) {
        if (elementRefusal(shelf, i) != 0) return Long.MIN_VALUE;
        Object row = shelves[shelf];
        if (row instanceof boolean[]) return ((boolean[]) row)[i] ? 1 : 0;
        return java.lang.reflect.Array.getLong(row, i);
    }

    int shift(int shelf, int i, int other, int j, int n) {
        if (shelf < 0 || shelf > 5 || other < 0 || other > 5) return BAD;
        try {
            if (shelves[shelf] == null || shelves[other] == null) return -11;
            System.arraycopy(shelves[shelf], i, shelves[other], j, n);
            return n;
        } catch (ArrayStoreException e) {
            return -12;
        } catch (IndexOutOfBoundsException e) {
            return -13;
        }
    }

    int taken(int shelf, int k) {
        if (shelf < 0 || shelf > 5 || k < 0 || k > 7) return BAD;
        if (shelves[shelf] == null) return -11;
        return KINDS[k].isInstance(shelves[shelf]) ? ((Shield) shelves[shelf]).kind : -12;
    }

    int count(int what) {
        int[] all = {many(), lack(now), tape.length(), done.size(), bodies.size(), myTrace.size()};
        return what < 0 || what > 5 ? BAD : all[what];
    }
}
