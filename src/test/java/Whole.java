/** A town in which there is something of all that the document names, and all that is seen of it. */
final class Whole {
    private Whole() {
    }

    /** Four people, a law, two bytes on the tape, five changes and two undone, an image, two bodies, six shelves. */
    static ShieldLine town() {
        ShieldLine x = new ShieldLine();
        int[] places = {0, 7, 14, 35};
        for (int place : places) x.person(place);
        Due.law(x, "g-d/3+k");
        x.feed('g');
        x.feed('-');
        x.mend(0, 4, 1);
        x.mend(1, 4, 0);
        x.mend(2, 3, 50);
        x.mend(3, 1, 7);
        x.mend(0, 5, 3);
        x.cares(2, 3);
        x.gives(2, 1, 9);
        x.image();
        x.day();
        x.mend(1, 2, 1);
        x.mend(0, 6, 9);
        x.undo();
        x.undo();
        x.body(4);
        x.body(7);
        x.act(1, 3, 5);
        Due.bytes(x, 0, 1, 0, 1, 2);
        x.keep(1, 1);
        x.row(3, 2, 2);
        x.put(3, 1, -6);
        x.row(4, 4, 3);
        x.put(4, 2, 1);
        x.row(5, 0, 0);
        return x;
    }

    /** Changes the town as it goes: it is of no use behind it. */
    static String seen(ShieldLine x) {
        StringBuilder s = new StringBuilder();
        numbers(x, s);
        acts(x, s);
        s.append(" rounds ").append(x.round(2, -1)).append(' ').append(x.round(2, -2));
        for (int i = 0; i < 3; i++) s.append(" redo ").append(x.redo());
        numbers(x, s);
        for (int i = 0; i < 9; i++) s.append(" undo ").append(x.undo());
        numbers(x, s);
        s.append(" back ").append(x.back());
        numbers(x, s);
        s.append(" law ").append(x.law());
        return s.toString();
    }

    private static void numbers(ShieldLine x, StringBuilder s) {
        s.append("\n   ");
        for (int one = 0; one < x.count(0); one++) {
            for (int what = 0; what <= 4; what++) s.append(' ').append(x.of(one, what));
            s.append(" comes ").append(x.comes(one)).append(';');
        }
        s.append(" wind ").append(x.of(0, 5)).append(" day ").append(x.of(0, 6)).append(" counts");
        for (int what = 0; what <= 5; what++) s.append(' ').append(x.count(what));
        s.append(" led");
        for (int what = 0; what <= 4; what++) s.append(' ').append(x.led(what));
    }

    private static void acts(ShieldLine x, StringBuilder s) {
        s.append("\n    trace");
        for (int i = 0; i < x.count(5); i++) s.append(' ').append(x.trace(i));
        for (int shelf = 0; shelf <= 5; shelf++) {
            s.append(" shelf ").append(x.taken(shelf, 0)).append(' ').append(x.shift(shelf, 0, shelf, 0, 0));
            for (int i = 0; x.element(shelf, i) != Long.MIN_VALUE && i < 5; i++) {
                s.append(' ').append(x.element(shelf, i));
            }
        }
    }
}
