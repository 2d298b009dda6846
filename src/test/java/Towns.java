/** Small towns to ask. Who stand at one place give just their GIVES, 4 at first. */
final class Towns {
    private Towns() {
    }

    /** n people at place 0. */
    static ShieldLine many(int n) {
        ShieldLine x = new ShieldLine();
        for (int i = 0; i < n; i++) x.person(0);
        return x;
    }

    /** Two at place 0; 0 cares for 1: 0 loses 5 a day, 1 wins 1. */
    static ShieldLine pair() {
        ShieldLine x = many(2);
        x.mend(0, 4, 1);
        return x;
    }

    /** n at place 0, of whom nobody needs anything and the wind takes nothing. */
    static ShieldLine still(int n) {
        ShieldLine x = many(n);
        x.mend(0, 5, 0);
        for (int i = 0; i < n; i++) x.mend(i, 2, 0);
        return x;
    }

    /** 0 cares for 1, for 2, and so on, the last one for nobody. */
    static ShieldLine chain(int n) {
        ShieldLine x = many(n);
        for (int i = 0; i + 1 < n; i++) x.mend(i, 4, i + 1);
        return x;
    }

    /** What comes by a law from 0 of pair(): g 4, d 0, n 3, k 1, s 20, t 0. */
    static int gift(String text) {
        ShieldLine x = pair();
        int answer = Due.law(x, text);
        return answer == 1 ? x.comes(0) : answer;
    }

    /** What law() answers to a text on a new object. */
    static int law(String text) {
        return Due.law(new ShieldLine(), text);
    }
}
