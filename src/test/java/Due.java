/** Keeps count of answers that are not the ones due; the tests share it. */
final class Due {
    private int asked = 0;
    private int wrong = 0;
    private String heading = "";

    /** What is told ahead of each call from now on. */
    void under(String told) {
        heading = told;
    }

    int asked() {
        return asked;
    }

    void is(String call, long got, long want) {
        asked++;
        if (got != want) {
            fails(call + " answered " + got + ", due is " + want);
        }
    }

    void same(String what, String got, String want) {
        asked++;
        if (!got.equals(want)) {
            fails(what + ":\n  is     " + got + "\n  due is " + want);
        }
    }

    void fails(String how) {
        wrong++;
        System.out.println(heading + how);
    }

    /** Tells a text to the tape and makes it the law: what law() answers. */
    static int law(ShieldLine x, String text) {
        for (int i = 0; i < text.length(); i++) {
            x.feed(text.charAt(i));
        }
        return x.law();
    }

    /** Lays a row of bytes on a shelf. */
    static void bytes(ShieldLine x, int shelf, int... values) {
        x.row(shelf, 0, values.length);
        for (int i = 0; i < values.length; i++) {
            x.put(shelf, i, values[i]);
        }
    }

    void end() {
        System.out.println(asked + " answers, " + wrong + " not as due");
        if (wrong != 0 || asked == 0) {
            System.exit(1);
        }
    }
}
