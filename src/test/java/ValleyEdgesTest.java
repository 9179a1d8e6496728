import java.io.IOException;

/** The boundary sentences of section 1 and of promises 1 to 6: folk, places, roads, weeks. */
public final class ValleyEdgesTest extends Edges {
    private static final int[] HOURS = {10, 5, 12, 7, 5};
    private static final int[] WORTH = {10, 7, 15, 10, 12};

    private static void folk() {
        sentence("FOLK 0 .. 11 as they come", () -> {
            for (int i = 0; i < 12; i++) {
                due(-1, x.about(i, 0));
                due(i, x.folk(i % 5, i % 6, i));
                due(i % 5, x.about(i, 0));
                due(i + 1, x.count(0));
            }
            refused(-2, () -> x.folk(0, 0, 0));
            due(12, x.count(0));
            due(-1, x.about(12, 0));
            due(11, x.about(11, 2));
        });
        sentence("of KINDS: 0 GROWN; 1 YOUNG under GROWN; 2 SMITH under GROWN; 3 ELDER under GROWN; 4 JUDGE under ELDER", () -> {
            allRefused(-1, () -> x.folk(-1, 0, 0), () -> x.folk(5, 0, 0), () -> x.folk(LOW, 0, 0), () -> x.folk(HIGH, 0, 0));
            for (int k = 0; k < 5; k++) due(k, x.folk(k, 0, 0));
            for (int k = 0; k < 5; k++) due(k, x.about(k, 0));
        });
        sentence("each in a PLACE 0 .. 5", () -> {
            allRefused(-1, () -> x.folk(0, -1, 0), () -> x.folk(0, 6, 0), () -> x.folk(0, LOW, 0), () -> x.folk(0, HIGH, 0));
            for (int p = 0; p < 6; p++) due(p, x.folk(0, p, 0));
            for (int p = 0; p < 6; p++) due(p, x.about(p, 1));
        });
        sentence("with SKILLS (bits 0 .. 4)", () -> {
            allRefused(-1, () -> x.folk(0, 0, -1), () -> x.folk(0, 0, 32), () -> x.folk(0, 0, LOW), () -> x.folk(0, 0, HIGH));
            due(0, x.folk(0, 0, 0));
            due(1, x.folk(0, 0, 31));
            for (int s = 0; s < 5; s++) x.folk(0, 0, 1 << s);
            due(0, x.about(0, 2));
            due(31, x.about(1, 2));
            // each skill is its own bit: only who has it could help
            for (int s = 0; s < 5; s++) due((1 << 1) | (1 << (2 + s)), x.could(x.need(0, s, 1, 0)));
        });
        sentence("HOURS (that one can give in a WEEK): GROWN 10; YOUNG half of that; SMITH 2 more than GROWN; ELDER 3 less than GROWN; JUDGE 2 less than an ELDER.", () -> {
            for (int k = 0; k < 5; k++) {
                due(HOURS[k], x.about(x.folk(k, 0, 0), 3));
                due(HOURS[k], x.free(k, 0));
            }
        });
        sentence("WORTH (of an hour, in tenths): GROWN 10; YOUNG 3 less; SMITH half more than GROWN; ELDER as GROWN; JUDGE 2 more than an ELDER.", () -> {
            for (int k = 0; k < 5; k++) due(WORTH[k], x.about(x.folk(k, 0, 0), 4));
        });
        sentence("`HourValley()`: Nobody is there.", () -> {
            for (int k = 0; k < 7; k++) due(0, x.count(k));
            for (int k = 0; k < 6; k++) due(-1, x.about(0, k));
            due(-1, x.entry(0, 0));
            due(-1, x.owed(0, 0, 0, -1, 0));
            due(1, thrownByBalance(0, 0, -1, 0));
            due(-1, x.free(0, 0));
            due(-1, x.need(0, 0, 1, 0));
            due(-1, x.could(0));
            due(-1, x.keep(0, 1, 0));
            due(-1, x.act(0, 1, 1, 0, 0));
            due(0, x.all(0, -1, 0));
            due(0, x.all(520, 0, 1));
            due(-1, x.all(0, -1, 2));
            due(0, x.most());
            due(0, x.close());
            due(0, x.barn(0));
            due(-4, x.shortest(-1));
            due(-4, x.shortest(0));
            ints(0);
            due(0, x.bound(0));
            due(1, x.proves(0));
        });
        sentence("`int folk(int kind, int place, int skills)`: One comes: the number. -1; -2.", () -> {
            valley(12);
            allRefused(-1, () -> x.folk(5, 0, 0), () -> x.folk(0, 6, 0), () -> x.folk(0, 0, 32), () -> x.folk(-1, -1, -1));
            refused(-2, () -> x.folk(4, 5, 31));
        });
        sentence("Of one: 0 KIND, 1 PLACE, 2 SKILLS, 3 HOURS, 4 WORTH, 5 the WEEK of its DEATH (-4). -1.", () -> {
            x.folk(4, 5, 21);
            x.folk(1, 0, 0);
            int[] judge = {4, 5, 21, 5, 12, -4};
            int[] young = {1, 0, 0, 5, 7, -4};
            for (int k = 0; k < 6; k++) {
                due(judge[k], x.about(0, k));
                due(young[k], x.about(1, k));
            }
            valley(3);
            due(-4, x.about(0, 5));
            x.week(520);
            x.death(1, 0);
            due(520, x.about(1, 5));
            due(-4, x.about(0, 5));
            allRefused(-1, () -> x.about(0, -1), () -> x.about(0, 6), () -> x.about(3, 5), () -> x.about(-1, 5), () -> x.about(0, LOW), () -> x.about(0, HIGH));
            valley(2);
            x.death(0, 1);
            due(0, x.about(0, 5));
        });
    }

    private static void weeks() {
        sentence("WEEKS are 0 .. 520", () -> {
            valley(2);
            for (int bad : new int[] {-1, 521, LOW, HIGH}) {
                allRefused(-1, () -> x.week(bad), () -> x.reached(0, 1, bad), () -> x.act(0, 1, 1, bad, 0), () -> x.owed(0, 1, bad, -1, 0),
                    () -> x.all(bad, -1, 0), () -> x.need(0, 0, 1, bad), () -> x.free(0, bad), () -> x.barn(bad));
                due(1, thrownByBalance(0, bad, -1, 0));
            }
            for (int good : new int[] {0, 520}) {
                due(0, x.reached(0, 1, good));
                due(0, x.owed(0, 1, good, -1, 0));
                due(0, x.all(good, -1, 0));
                due(0, thrownByBalance(0, good, -1, 0));
                due(10, x.free(0, good));
                due(0, x.barn(good));
            }
            due(0, x.need(0, 0, 1, 0));
            due(1, x.need(0, 0, 1, 520));
            due(0, x.week(520));
            due(0, x.act(0, 1, 1, 520, 0));
            due(1, x.act(0, 1, 1, 0, 0));
        });
        sentence("THE WEEK is 0 at first, and only goes on.", () -> {
            due(0, x.count(2));
            due(0, x.week(0));
            due(0, x.week(1));
            due(1, x.count(2));
            refused(-1, () -> x.week(0));
            due(1, x.week(520));
            refused(-1, () -> x.week(519));
            due(520, x.count(2));
        });
        sentence("THE WEEK goes on to a later one, or stays: what it was. -1.", () -> {
            due(0, x.week(7));
            due(7, x.week(7));
            due(7, x.week(8));
            allRefused(-1, () -> x.week(7), () -> x.week(-1), () -> x.week(521));
            due(8, x.week(520));
            due(520, x.week(520));
            refused(-1, () -> x.week(521));
        });
        sentence("The SEASON of a WEEK w is (w / 13) modulo 4.", () -> {
            for (int s = 0; s < 4; s++) x.road(s, s + 1, 1 << s);
            for (int w = 0; w <= 520; w++)
                for (int s = 0; s < 4; s++) due((w / 13 - s) % 4 == 0 ? 1 : 0, x.reached(s, s + 1, w));
        });
    }

    /** All rows of the six places, each with roads in that row alone: both ends are reached from one another. */
    private static void rowsOfPlaces(int[] row, int n) {
        if (n < 6) {
            for (int p = 0; p < 6; p++) {
                boolean in = false;
                for (int i = 0; i < n; i++) in |= row[i] == p;
                row[n] = p;
                if (!in) rowsOfPlaces(row, n + 1);
            }
            return;
        }
        x = new HourValley();
        for (int i = 0; i < 5; i++) x.road(row[i], row[i + 1], 1);
        due(1, x.reached(row[0], row[5], 0));
        due(0, x.reached(row[0], row[5], 13));
        x.road(row[2], row[3], 14);
        due(0, x.reached(row[0], row[5], 0));
        due(1, x.reached(row[0], row[2], 0));
        due(1, x.reached(row[5], row[3], 0));
    }

    private static void roads() {
        sentence("ROADS lie between two PLACES", () -> {
            x.road(1, 4, 1);
            due(1, x.reached(1, 4, 0));
            due(1, x.reached(4, 1, 0));
            due(1, x.road(4, 1, 6));
            due(6, x.road(1, 4, 6));
            due(0, x.reached(4, 1, 0));
            due(1, x.reached(4, 1, 13));
            refused(-1, () -> x.road(4, 4, 6));
        });
        sentence("each open in some SEASONS (bits 0 .. 3; none at first)", () -> {
            for (int a = 0; a < 6; a++)
                for (int b = 0; b < 6; b++)
                    for (int w = 0; w < 52; w += 13) due(a == b ? 1 : 0, x.reached(a, b, w));
            for (int a = 0; a < 6; a++)
                for (int b = 0; b < a; b++) {
                    due(0, x.road(a, b, 15));
                    due(15, x.road(b, a, 0));
                }
            allRefused(-1, () -> x.road(0, 1, -1), () -> x.road(0, 1, 16), () -> x.road(0, 1, LOW), () -> x.road(0, 1, HIGH));
            due(0, x.road(0, 1, 0));
        });
        sentence("if ROADS that are open then lead there (itself, too)", () -> {
            // all six in a row, the longest way that there is
            int[] row = {3, 0, 5, 1, 4, 2};
            for (int i = 0; i < 5; i++) x.road(row[i], row[i + 1], 4);
            due(0, x.reached(3, 2, 25));
            due(1, x.reached(3, 2, 26));
            due(1, x.reached(2, 3, 38));
            due(0, x.reached(2, 3, 39));
            for (int p = 0; p < 6; p++) due(1, x.reached(p, p, 0));
            x.road(5, 1, 11);
            due(0, x.reached(3, 2, 26));
            due(1, x.reached(3, 5, 26));
            due(1, x.reached(1, 2, 26));
            due(1, x.reached(1, 5, 0));
            rowsOfPlaces(new int[6], 0);
        });
        sentence("SEASONS (0 .. 15) in which a ROAD between two PLACES is open: what it was. -1 (one PLACE, too).", () -> {
            for (int p = 0; p < 6; p++) {
                int place = p;
                refused(-1, () -> x.road(place, place, 1));
            }
            allRefused(-1, () -> x.road(-1, 0, 1), () -> x.road(0, -1, 1), () -> x.road(6, 0, 1), () -> x.road(0, 6, 1), () -> x.road(HIGH, LOW, 1), () -> x.road(6, 6, 1));
            due(0, x.road(0, 5, 1));
            due(1, x.road(5, 0, 2));
            due(2, x.road(0, 5, 15));
            due(15, x.road(0, 5, 0));
            due(0, x.road(5, 0, 0));
            due(0, x.reached(0, 5, 0));
        });
        sentence("Whether a PLACE is REACHED from another one in a WEEK: 1, 0. -1.", () -> {
            allRefused(-1, () -> x.reached(-1, 0, 0), () -> x.reached(0, -1, 0), () -> x.reached(6, 0, 0), () -> x.reached(0, 6, 0), () -> x.reached(6, 6, 0),
                () -> x.reached(-1, -1, 0), () -> x.reached(0, 0, -1), () -> x.reached(0, 0, 521), () -> x.reached(LOW, HIGH, 0));
            due(1, x.reached(5, 5, 520));
            due(0, x.reached(5, 0, 0));
        });
        sentence("An object is used for at most 512 calls after it has been made", () -> {
            for (int i = 0; i < 511; i++) x.road(i % 5, 5, i % 16);
            due(511 % 16 == 0 ? 0 : (510 % 16), x.road(510 % 5, 5, 0));
        });
    }

    public static void main(String[] args) throws IOException {
        folk();
        weeks();
        roads();
        end("ValleyEdgesTest", args);
    }
}
