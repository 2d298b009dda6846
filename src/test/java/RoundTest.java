import java.util.Random;

/**
 * Promise 14, held against the model in towns where what comes hangs on the day, the STORE, how FAR and the NEEDS:
 * the class remembers gifts from ring to ring, and none may be taken for another one's, nor outlive a change.
 */
public final class RoundTest {
    private static final int TOWNS = 100;
    private static final String[] LAWS = {"g>6?20;s>50?20", "(s+t+d+n)%21", "s%7*3+d", "t%3*7+n", "s>90?20;s<5?g*2;d",
        "g*(s%2)*3-k", "s/9+t%2*d", "20-d*2", "s=1?20;s=2?10;s>97?20;g"};
    private static final Due due = new Due();

    private static void settle(ShieldLine x, Model m, Random draws) {
        int many = 3 + draws.nextInt(4);
        for (int i = 0; i < many; i++) {
            int place = draws.nextInt(36);
            due.is("person " + place, x.person(place), m.person(place));
            mend(x, m, i, 1, draws.nextInt(10));
            mend(x, m, i, 2, draws.nextBoolean() ? 9 - draws.nextInt(2) : draws.nextInt(10));
            mend(x, m, i, 3, draws.nextBoolean() ? 40 + draws.nextInt(16) : draws.nextInt(100));
        }
        mend(x, m, 0, 6, draws.nextBoolean() ? 93 + draws.nextInt(7) : draws.nextInt(100));
    }

    private static void mend(ShieldLine x, Model m, int number, int what, int v) {
        due.is("mend " + number + " " + what + " " + v, x.mend(number, what, v), m.mend(number, what, v));
    }

    private static void tellLaw(ShieldLine x, Model m, String text) {
        for (char c : text.toCharArray()) due.is("feed " + c, x.feed(c), m.feed(c));
        due.is("law of " + text, x.law(), m.law());
    }

    /** One thing is changed, by each of the ways that a town has. */
    private static void change(ShieldLine x, Model m, Random draws) {
        int one = draws.nextInt(m.many());
        switch (draws.nextInt(8)) {
            case 0: mend(x, m, one, draws.nextInt(3), draws.nextInt(10)); break;
            case 1: mend(x, m, one, 3, draws.nextInt(100)); break;
            case 2: mend(x, m, 0, 6, draws.nextInt(100)); break;
            case 3: due.is("day", x.day(), m.day()); break;
            case 4: due.is("undo", x.undo(), m.undo()); break;
            case 5: due.is("gives", x.gives(one, (one + 1) % m.many(), 5), m.gives(one, (one + 1) % m.many(), 5)); break;
            case 6: due.is("person", x.person(one), m.person(one)); break;
            default: tellLaw(x, m, LAWS[draws.nextInt(LAWS.length)]); break;
        }
    }

    private static void rounds(String told, ShieldLine x, Model m, int n) {
        due.under(told);
        for (int one = -2; one < m.many(); one++) {
            due.is("round " + n + " " + one, x.round(n, one), m.round(n, one));
        }
    }

    private static void town(int seed) {
        Random draws = new Random(seed);
        ShieldLine x = new ShieldLine();
        Model m = new Model();
        due.under("town " + seed + ": ");
        settle(x, m, draws);
        tellLaw(x, m, LAWS[seed % LAWS.length]);
        for (int n = 6; n >= 4; n--) rounds("town " + seed + ", as settled: ", x, m, n);
        for (int i = 0; i < 4; i++) {
            change(x, m, draws);
            rounds("town " + seed + ", changed: ", x, m, draws.nextInt(7));
        }
    }

    /** Behind five days 0 has 99 or 1, by who cares for him: the ends of what STORE can be, in one search. */
    private static void endsOfStore() {
        ShieldLine x = new ShieldLine();
        Model m = new Model();
        due.under("ends of STORE: ");
        int[][] people = {{6, 9, 46}, {9, 0, 67}, {6, 0, 56}, {0, 7, 38}, {2, 6, 14}};
        for (int i = 0; i < people.length; i++) {
            due.is("person", x.person(0), m.person(0));
            for (int what = 1; what <= 3; what++) mend(x, m, i, what, people[i][what - 1]);
        }
        tellLaw(x, m, "g=9?20;s=99?20;s=1?0;g");
        rounds("ends of STORE: ", x, m, 6);
    }

    /** All eight are there, the first and the last unlike. */
    private static void eight(int seed) {
        Random draws = new Random(seed);
        ShieldLine x = new ShieldLine();
        Model m = new Model();
        due.under("eight, drawn by " + seed + ": ");
        for (int i = 0; i < 8; i++) {
            due.is("person", x.person(i), m.person(i));
            mend(x, m, i, 1, i == 7 ? 9 : draws.nextInt(5));
            mend(x, m, i, 2, 4 + draws.nextInt(6));
            mend(x, m, i, 3, i % 7 == 0 ? 20 : 1 + draws.nextInt(20));
        }
        for (int one = -2; one <= 0; one++) due.is("round 2 " + one, x.round(2, one), m.round(2, one));
    }

    public static void main(String[] args) {
        for (int seed = 0; seed < TOWNS; seed++) town(seed);
        endsOfStore();
        for (int seed = 0; seed < 4; seed++) eight(seed);
        due.end();
    }
}
