/** All that can be asked of a valley without a change, as one text. */
final class State {
    private State() {
    }

    static String of(HourValley x) {
        StringBuilder s = new StringBuilder();
        for (int k = 0; k < 7; k++) s.append(x.count(k)).append(' ');
        valley(x, s);
        book(x, s);
        needs(x, s);
        shelves(x, s);
        s.append(x.most());
        for (int i = -1; i < 6; i++) s.append(' ').append(x.shortest(i));
        return s.toString();
    }

    private static void valley(HourValley x, StringBuilder s) {
        for (int w = 0; w < x.count(0); w++) {
            for (int k = 0; k < 6; k++) s.append(x.about(w, k)).append(' ');
            s.append(x.free(w, x.count(2))).append(' ').append(x.free(w, 0)).append(' ');
        }
        for (int w = 0; w < 52; w += 13)
            for (int a = 0; a < 6; a++) for (int b = 0; b < a; b++) s.append(x.reached(a, b, w));
    }

    private static void book(HourValley x, StringBuilder s) {
        for (int e = 0; e < x.count(1); e++) {
            for (int k = 0; k < 5; k++) s.append(x.entry(e, k)).append(' ');
            for (int v = 0; v < 3; v++) s.append(x.counts(e, -1, v)).append(' ');
        }
        for (int v = 0; v < 3; v++) s.append(x.all(520, -1, v)).append(' ').append(x.all(0, -1, v)).append(' ');
        for (int a = 0; a < x.count(0); a++)
            for (int b = 0; b < x.count(0); b++) s.append(x.owed(a, b, x.count(2), -1, 1)).append(' ');
    }

    private static void needs(HourValley x, StringBuilder s) {
        for (int n = 0; n < x.count(3); n++) s.append(x.could(n)).append(' ').append(x.best(n)).append(' ').append(x.helper(n)).append(' ');
        s.append(x.barn(x.count(2))).append(' ').append(x.barn(0)).append(' ');
    }

    private static void shelves(HourValley x, StringBuilder s) {
        for (int d = 0; d < 8; d++) {
            s.append(x.weight(d)).append(' ').append(x.toss(d)).append(' ').append(x.bound(d)).append(' ').append(x.fault(d)).append(' ');
            for (int i = 0; i < 80; i++) {
                try { s.append(x.element(d, i)).append(' '); } catch (IllegalStateException e) { break; }
            }
        }
    }
}
