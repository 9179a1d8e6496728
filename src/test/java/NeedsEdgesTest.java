import java.io.IOException;

/** The boundary sentences of section 5 and of promises 25 to 32: needs, who could, barn days, counts, refusals. */
public final class NeedsEdgesTest extends Edges {

    /** All roads open in all seasons. */
    private static void openRoads() {
        for (int p = 0; p < 5; p++) x.road(p, p + 1, 15);
    }

    /** Who helps the needs 0, 1, .. on barn days of the week in which they are. */
    private static void helpers(int... want) {
        int met = 0;
        for (int i = 0; i < want.length; i++) {
            due(want[i], x.helper(i));
            met += want[i] >= 0 ? 1 : 0;
        }
        due(met, x.barn(0));
    }

    private static void asked() {
        sentence("NEEDS, 30 at most, as they come", () -> {
            valley(2);
            for (int i = 0; i < 30; i++) {
                due(i, x.count(3));
                due(i, x.need(i % 2, 0, 1, 0));
            }
            refused(-2, () -> x.need(0, 0, 1, 0));
            due(30, x.count(3));
            due(0b10, x.could(28));
            due(0b01, x.could(29));
            refused(-1, () -> x.could(30));
            // met ones are needs all the same
            x.meet(0, 1);
            refused(-2, () -> x.need(0, 0, 1, 0));
        });
        sentence("who asks, a SKILL, hours (1 .. 12), in a WEEK (THE WEEK .. 520)", () -> {
            valley(2);
            x.week(10);
            allRefused(-1, () -> x.need(0, 0, 0, 10), () -> x.need(0, 0, 13, 10), () -> x.need(0, 0, -1, 10), () -> x.need(0, 0, LOW, 10), () -> x.need(0, 0, HIGH, 10));
            allRefused(-1, () -> x.need(0, 0, 1, 9), () -> x.need(0, 0, 1, 0), () -> x.need(0, 0, 1, 521), () -> x.need(0, 0, 1, LOW), () -> x.need(0, 0, 1, HIGH));
            allRefused(-1, () -> x.need(0, -1, 1, 10), () -> x.need(0, 5, 1, 10), () -> x.need(0, LOW, 1, 10), () -> x.need(0, HIGH, 1, 10));
            allRefused(-1, () -> x.need(-1, 0, 1, 10), () -> x.need(2, 0, 1, 10), () -> x.need(LOW, 0, 1, 10), () -> x.need(HIGH, 0, 1, 10));
            due(0, x.need(0, 0, 1, 10));
            due(1, x.need(1, 4, 12, 520));
            x.week(520);
            due(2, x.need(1, 4, 12, 520));
            refused(-1, () -> x.need(1, 4, 12, 519));
        });
        sentence("OPEN till met.", () -> {
            valley(2);
            x.need(0, 0, 1, 0);
            x.need(0, 0, 1, 1);
            due(2, x.count(4));
            x.meet(0, 1);
            due(1, x.count(4));
            // a need whose week is gone stays open
            x.week(5);
            due(1, x.count(4));
            due(2, x.could(1));
            due(1, x.barn(1));
            x.death(0, 1);
            due(1, x.count(4));
            due(0, x.could(1));
        });
        sentence("A NEED: its number. -1; -2; -3: who asks is dead.", () -> {
            valley(2);
            x.week(1);
            x.death(1, 0);
            refused(-3, () -> x.need(1, 0, 1, 1));
            allRefused(-1, () -> x.need(1, 5, 1, 1), () -> x.need(1, 0, 13, 1), () -> x.need(1, 0, 1, 0));
            for (int i = 0; i < 30; i++) due(i, x.need(0, 0, 1, 1));
            allRefused(-2, () -> x.need(0, 0, 1, 1), () -> x.need(1, 0, 1, 1));
            allRefused(-1, () -> x.need(0, 0, 0, 1), () -> x.need(2, 0, 1, 1));
        });
    }

    private static void able() {
        sentence("HOURS less all that it gave in ACTS of that WEEK as told by all (GIFTS, DOUBTED ones, too), 0 at least.", () -> {
            valley(2);
            x.folk(1, 0, 31);
            x.week(4);
            due(10, x.free(0, 4));
            x.act(0, 1, 1, 4, 0);
            x.act(0, 1, 2, 4, 1);
            x.act(0, 1, 3, 4, 2);
            due(4, x.free(0, 4));
            x.gift(0);
            x.judge(1, false);
            customOf("h*9");
            due(4, x.free(0, 4));
            due(10, x.free(0, 3));
            due(10, x.free(0, 5));
            due(10, x.free(1, 4));
            x.act(0, 1, 4, 4, 3);
            due(0, x.free(0, 4));
            x.act(0, 1, 1, 4, 0);
            due(0, x.free(0, 4));
            x.act(2, 1, 20, 0, 0);
            due(0, x.free(2, 0));
            due(5, x.free(2, 1));
            // one who met a need gave it
            x.need(0, 0, 7, 4);
            x.meet(0, 1);
            due(3, x.free(1, 4));
        });
        sentence("COULD: those (not who asks) that aren't dead, have the SKILL, are REACHED from the PLACE of who asks in that WEEK, with FREE hours enough (nobody, if who asks is dead).", () -> {
            x.folk(0, 0, 31);
            x.folk(0, 0, 2);
            x.folk(0, 1, 2);
            x.folk(0, 2, 2);
            x.folk(0, 0, 29);
            x.folk(1, 0, 2);
            x.need(0, 1, 5, 0);
            x.need(0, 1, 6, 0);
            x.need(0, 1, 5, 13);
            x.road(0, 1, 1);
            x.road(1, 2, 2);
            due(0b100110, x.could(0));
            due(0b000110, x.could(1));
            due(0b100010, x.could(2));
            // just enough hours, and one too few
            x.act(1, 0, 4, 0, 1);
            due(0b000110, x.could(1));
            x.act(1, 0, 1, 0, 1);
            due(0b000100, x.could(1));
            due(0b100110, x.could(0));
            x.act(5, 0, 1, 0, 1);
            due(0b000110, x.could(0));
            due(0b100010, x.could(2));
            x.road(0, 1, 2);
            due(0b101110, x.could(2));
            x.death(1, 2);
            due(0b101100, x.could(2));
            x.death(0, 2);
            for (int n = 0; n < 3; n++) due(0, x.could(n));
            for (int n = 0; n < 3; n++) due(-4, x.best(n));
        });
        sentence("Those who COULD meet a NEED, as bits. -1; -3: it is met.", () -> {
            valley(12);
            x.need(0, 0, 10, 0);
            x.need(11, 0, 10, 0);
            x.need(5, 0, 11, 0);
            due(0b111111111110, x.could(0));
            due(0b011111111111, x.could(1));
            due(0, x.could(2));
            allRefused(-1, () -> x.could(3), () -> x.could(-1), () -> x.could(30), () -> x.could(LOW), () -> x.could(HIGH));
            x.meet(0, 11);
            refused(-3, () -> x.could(0));
            due(0b011111111111, x.could(1));
            x.need(0, 0, 1, 0);
            due(0b011111111110, x.could(3));
        });
        sentence("WHO BEST: of those who COULD the one who owes who asks the most (by all, THE WEEK, VIEW 0), of several the least.", () -> {
            valley(4);
            x.need(0, 0, 1, 8);
            due(1, x.best(0));
            x.act(0, 3, 5, 0, 0);
            due(3, x.best(0));
            x.act(0, 2, 5, 0, 0);
            due(2, x.best(0));
            x.act(0, 1, 6, 0, 1);
            due(2, x.best(0));
            x.judge(2, true);
            due(1, x.best(0));
            x.week(7);
            x.forgive(1, 0, 2);
            due(2, x.best(0));
            x.forgive(2, 0, 2);
            due(3, x.best(0));
            // what others are owed does not matter, nor who could not
            x.act(1, 2, 20, 7, 0);
            due(3, x.best(0));
            x.week(8);
            x.act(3, 0, 10, 8, 0);
            due(1, x.best(0));
            // the first and the last of all
            valley(12);
            x.need(5, 0, 1, 0);
            due(0, x.best(0));
            x.act(5, 11, 3, 0, 0);
            due(11, x.best(0));
            x.act(5, 0, 3, 0, 0);
            due(0, x.best(0));
        });
        sentence("WHO BEST; -4: nobody. -1; -3: it is met.", () -> {
            valley(2);
            x.need(0, 0, 10, 0);
            x.need(0, 0, 11, 0);
            x.need(0, 0, 10, 0);
            due(1, x.best(0));
            refused(-4, () -> x.best(1));
            allRefused(-1, () -> x.best(3), () -> x.best(-1), () -> x.best(30), () -> x.best(LOW), () -> x.best(HIGH));
            x.meet(0, 1);
            refused(-3, () -> x.best(0));
            refused(-4, () -> x.best(2));
        });
        sentence("FREE hours of one in a WEEK. -1.", () -> {
            valley(2);
            allRefused(-1, () -> x.free(2, 0), () -> x.free(-1, 0), () -> x.free(12, 0), () -> x.free(LOW, 0), () -> x.free(HIGH, 0));
            allRefused(-1, () -> x.free(0, -1), () -> x.free(0, 521), () -> x.free(0, LOW), () -> x.free(0, HIGH));
            due(10, x.free(1, 520));
            // one who is dead has them still
            x.act(1, 0, 3, 0, 0);
            x.death(1, 0);
            due(7, x.free(1, 0));
            due(10, x.free(1, 9));
        });
    }

    private static void met() {
        sentence("MET by one who COULD, in THE WEEK if that is the NEED's: an ACT, SEEN, by day.", () -> {
            valley(3);
            customOf("h+n*30");
            x.week(2);
            x.need(1, 0, 12, 2);
            x.need(1, 0, 9, 2);
            x.need(1, 0, 1, 3);
            refused(-3, () -> x.meet(0, 2));
            due(1, x.meet(1, 2));
            int[] want = {1, 2, 2, 1, 9};
            for (int k = 0; k < 5; k++) due(want[k], x.entry(1, k));
            due(9, x.counts(1, -1, 0));
            refused(-3, () -> x.judge(1, false));
            due(9, owedNow(1, 2));
            due(1, x.free(2, 2));
            allRefused(-3, () -> x.meet(2, 0));
            x.week(3);
            due(2, x.meet(2, 0));
            due(3, x.entry(2, 1));
            refused(-3, () -> x.meet(0, 0));
        });
        sentence("A NEED is MET by one: the ENTRY's number. -1; -2; -3: it is met, THE WEEK is another, or it couldn't.", () -> {
            x.folk(0, 0, 31);
            x.folk(0, 0, 1);
            x.folk(0, 1, 31);
            x.folk(1, 0, 31);
            x.folk(0, 0, 31);
            x.need(0, 1, 6, 0);
            x.need(0, 0, 6, 1);
            x.need(1, 1, 5, 0);
            x.need(4, 1, 5, 0);
            allRefused(-1, () -> x.meet(4, 0), () -> x.meet(-1, 0), () -> x.meet(LOW, 0), () -> x.meet(HIGH, 0), () -> x.meet(0, 5), () -> x.meet(0, -1), () -> x.meet(0, LOW), () -> x.meet(0, HIGH));
            // who asks; without the skill; not reached; without the hours; of another week
            allRefused(-3, () -> x.meet(0, 0), () -> x.meet(0, 1), () -> x.meet(0, 2), () -> x.meet(0, 3), () -> x.meet(1, 4));
            x.road(0, 1, 1);
            due(0, x.meet(0, 2));
            allRefused(-3, () -> x.meet(0, 2), () -> x.meet(0, 4), () -> x.meet(2, 2));
            due(1, x.meet(2, 3));
            x.death(4, 0);
            x.need(0, 0, 1, 0);
            allRefused(-3, () -> x.meet(3, 0), () -> x.meet(4, 4));
            allRefused(-1, () -> x.meet(0, 5), () -> x.meet(5, 0));
            fillBook(0, 1, FULL);
            allRefused(-2, () -> x.meet(0, 2), () -> x.meet(1, 1), () -> x.meet(4, 1), () -> x.meet(3, 0), () -> x.meet(4, 4));
            allRefused(-1, () -> x.meet(0, 5), () -> x.meet(5, 0));
            due(3, x.count(4));
        });
    }

    private static void barn() {
        sentence("BARN DAYS of a WEEK: its OPEN NEEDS, the first 5 by numbers", () -> {
            valley(12);
            for (int i = 0; i < 4; i++) x.need(0, 0, 10, 0);
            x.need(0, 0, 10, 7);
            for (int i = 0; i < 3; i++) x.need(0, 0, 10, 0);
            due(5, x.barn(0));
            due(1, x.barn(7));
            int[] helpers = {1, 2, 3, 4, 1, 5, -4, -4};
            for (int n = 0; n < 8; n++) due(helpers[n], x.helper(n));
            x.meet(1, 9);
            int[] then = {1, -3, 2, 3, 1, 4, 5, -4};
            for (int n = 0; n < 8; n++) due(then[n], x.helper(n));
            due(5, x.barn(0));
            due(0, x.barn(1));
            // one that nobody could meet is among the first all the same
            valley(2);
            for (int i = 0; i < 5; i++) x.need(0, 0, 12, 0);
            x.need(0, 0, 1, 0);
            due(0, x.barn(0));
            due(-4, x.helper(5));
            due(2, x.could(5));
        });
        sentence("each gets nobody, or one who COULD", () -> {
            x.folk(0, 0, 1);
            x.folk(0, 0, 2);
            x.folk(1, 0, 3);
            x.folk(0, 1, 3);
            x.need(0, 0, 5, 0);
            x.need(0, 0, 6, 0);
            x.need(1, 1, 5, 0);
            x.need(3, 0, 1, 0);
            helpers(2, -4, -4, -4);
            openRoads();
            helpers(2, 3, -4, 0);
            x.death(2, 0);
            helpers(3, -4, 3, 0);
            x.death(3, 0);
            helpers(-4, -4, -4, -4);
        });
        sentence("nobody in two PLACES (of those who ask; helping in the own one counts, too)", () -> {
            x.folk(0, 0, 1);
            x.folk(0, 0, 0);
            x.folk(0, 1, 0);
            x.folk(0, 2, 0);
            x.folk(0, 2, 0);
            openRoads();
            x.need(1, 0, 1, 0);
            x.need(2, 0, 1, 0);
            helpers(0, -4);
            x.need(3, 0, 1, 0);
            helpers(0, -4, -4);
            x.need(4, 0, 1, 0);
            helpers(-4, -4, 0, 0);
            // away, and asking itself at home
            valley(0);
            x.folk(0, 0, 1);
            x.folk(0, 1, 2);
            openRoads();
            x.need(0, 1, 1, 0);
            x.need(1, 0, 1, 0);
            helpers(1, 0);
        });
        sentence("nobody more than FREE hours in all", () -> {
            valley(2);
            x.need(0, 0, 6, 0);
            x.need(0, 0, 4, 0);
            helpers(1, 1);
            x.need(0, 0, 1, 0);
            helpers(1, 1, -4);
            x.act(1, 0, 1, 0, 1);
            helpers(1, -4, 1);
            x.act(1, 0, 4, 0, 0);
            helpers(-4, 1, 1);
            x.act(1, 0, 5, 0, 0);
            helpers(-4, -4, -4);
        });
        sentence("as many NEEDS as can be are met; of several the one in which the first NEED has the least helper (nobody is behind all), then the next one.", () -> {
            valley(4);
            for (int i = 0; i < 5; i++) x.need(3, 0, 2, 0);
            helpers(0, 0, 0, 0, 0);
            // the first has 1 and not 0, as 0 alone could meet the second
            valley(0);
            x.folk(0, 0, 3);
            x.folk(0, 0, 1);
            x.folk(0, 0, 0);
            x.need(2, 0, 6, 0);
            x.need(2, 1, 6, 0);
            helpers(1, 0);
            // somebody, even the last one, goes ahead of nobody
            valley(0);
            x.folk(0, 1, 4);
            for (int i = 1; i < 11; i++) x.folk(0, 0, 0);
            x.folk(0, 0, 1);
            openRoads();
            x.need(0, 0, 6, 0);
            x.need(1, 0, 6, 0);
            helpers(11, -4);
            x.need(1, 0, 4, 0);
            helpers(-4, 11, 11);
            // then the next one: the second gets the least that is left
            valley(5);
            x.need(4, 0, 10, 0);
            x.need(4, 0, 9, 0);
            x.need(4, 0, 1, 0);
            helpers(0, 1, 1);
            // the first have nobody, so that more of the others can be met
            valley(0);
            x.folk(0, 0, 31);
            x.folk(0, 1, 0);
            x.folk(0, 2, 0);
            openRoads();
            x.need(1, 0, 3, 0);
            x.need(1, 0, 3, 0);
            for (int i = 0; i < 3; i++) x.need(2, 0, 3, 0);
            helpers(-4, -4, 0, 0, 0);
            // the second has nobody, so that the others can be met
            valley(0);
            x.folk(0, 0, 7);
            x.folk(0, 0, 0);
            x.need(1, 0, 4, 0);
            x.need(1, 1, 6, 0);
            x.need(1, 2, 3, 0);
            x.need(1, 2, 3, 0);
            helpers(0, -4, 0, 0);
        });
        sentence("BARN DAYS of a WEEK: how many NEEDS are met. -1.", () -> {
            due(0, x.barn(0));
            due(0, x.barn(520));
            allRefused(-1, () -> x.barn(-1), () -> x.barn(521), () -> x.barn(LOW), () -> x.barn(HIGH));
            valley(2);
            x.need(0, 0, 1, 520);
            due(1, x.barn(520));
            due(0, x.barn(519));
            // nothing is met by asking
            due(1, x.count(4));
            due(0, x.count(1));
        });
        sentence("Who meets a NEED on BARN DAYS of its WEEK; -4: nobody, or it isn't among the first 5. -1; -3: it is met.", () -> {
            valley(3);
            refused(-1, () -> x.helper(0));
            for (int i = 0; i < 6; i++) x.need(0, 0, 1, 0);
            x.need(0, 0, 11, 1);
            due(1, x.helper(4));
            allRefused(-4, () -> x.helper(5), () -> x.helper(6));
            allRefused(-1, () -> x.helper(7), () -> x.helper(-1), () -> x.helper(30), () -> x.helper(LOW), () -> x.helper(HIGH));
            x.meet(5, 1);
            refused(-3, () -> x.helper(5));
            x.meet(0, 1);
            refused(-3, () -> x.helper(0));
            due(1, x.helper(4));
        });
    }

    private static void refusals() {
        sentence("3 NEEDS, 4 of these OPEN, 5 dead ones, 6 DOUBTED ACTS not JUDGED yet; -1 for others.", () -> {
            valley(3);
            x.week(9);
            x.need(0, 0, 1, 9);
            x.need(0, 0, 1, 9);
            x.need(0, 0, 1, 9);
            x.meet(1, 1);
            x.act(0, 1, 1, 9, 1);
            x.death(2, 0);
            int[] want = {3, 3, 9, 3, 2, 1, 1};
            for (int k = 0; k < 7; k++) due(want[k], x.count(k));
            allRefused(-1, () -> x.count(7), () -> x.count(-1), () -> x.count(LOW), () -> x.count(HIGH));
        });
        sentence("Answers of several refusals are the first one here: -1 no such thing, a number out of range, or not as told; -2 no room; -3 it can't be as things stand; -4 none", () -> {
            valley(12);
            refused(-1, () -> x.folk(5, 0, 0));
            refused(-2, () -> x.folk(0, 0, 0));
            x.need(0, 0, 1, 0);
            x.need(0, 0, 12, 0);
            x.meet(0, 1);
            x.week(1);
            x.death(2, 3);
            refused(-1, () -> x.act(2, 2, 1, 1, 0));
            refused(-1, () -> x.forgive(2, 12, 1));
            refused(-1, () -> x.death(2, 2));
            refused(-1, () -> x.need(2, 0, 0, 1));
            refused(-1, () -> x.meet(0, 12));
            refused(-1, () -> x.about(12, 5));
            refused(-3, () -> x.best(0));
            refused(-4, () -> x.best(1));
            refused(-3, () -> x.helper(0));
            fillBook(0, 1, FULL);
            refused(-1, () -> x.act(2, 2, 1, 1, 0));
            refused(-2, () -> x.act(2, 0, 1, 1, 0));
            refused(-2, () -> x.forgive(2, 0, 1));
            refused(-2, () -> x.death(2, 0));
            refused(-2, () -> x.judge(0, true));
            refused(-2, () -> x.meet(0, 1));
            refused(-3, () -> x.need(2, 0, 1, 1));
        });
        sentence("-100 less a FAULT; -11 to -15.", () -> {
            valley(2);
            text(0, "h+");
            refused(-102, () -> x.custom(0));
            text(0, "");
            refused(-100, () -> x.custom(0));
            x.row(1, 2, 0);
            refused(-12, () -> x.custom(1));
            refused(-11, () -> x.custom(2));
            fillBook(0, 1, FULL);
            refused(-2, () -> x.custom(0));
            refused(-2, () -> x.custom(1));
            refused(-2, () -> x.custom(2));
        });
        sentence("A refused call changes nothing.", () -> {
            valley(3);
            openRoads();
            x.week(30);
            text(0, "h*2");
            bytes(1, 0, 1);
            ints(2, 1, 2, 3);
            x.keep(3, 1, 0);
            x.custom(0);
            x.act(0, 1, 5, 30, 0);
            x.act(1, 0, 3, 30, 0);
            x.act(1, 2, 3, 29, 1);
            x.need(0, 0, 4, 30);
            x.death(2, 0);
            allRefused(-1, () -> x.folk(9, 0, 0), () -> x.road(0, 0, 3), () -> x.road(0, 1, 16), () -> x.week(29), () -> x.custom(9), () -> x.act(0, 1, 1, 31, 0), () -> x.judge(0, true),
                () -> x.gift(9), () -> x.forgive(0, 1, 0), () -> x.ring(1, 0), () -> x.death(1, 1), () -> x.need(0, 0, 4, 29), () -> x.meet(1, 1), () -> x.keep(3, 1, 3), () -> x.row(2, 3, 1),
                () -> x.put(8, 0, 1), () -> x.copy(1, 0, 8, 0, 1));
            x.week(31);
            allRefused(-3, () -> x.act(2, 1, 1, 31, 0), () -> x.judge(1, false), () -> x.forgive(0, 2, 1), () -> x.death(0, 2), () -> x.need(2, 0, 1, 31), () -> x.meet(0, 0));
            allRefused(-14, () -> x.row(3, 0, -1), () -> x.row(0, 0, -1));
            allRefused(-13, () -> x.put(2, 3, 1), () -> x.copy(2, 0, 2, 2, 2));
            allRefused(-12, () -> x.copy(0, 0, 2, 0, 1), () -> x.put(3, 0, 1));
            allRefused(-11, () -> x.copy(0, 0, 7, 0, 1), () -> x.put(7, 0, 1));
            due(1, x.element(2, 0));
        });
    }

    public static void main(String[] args) throws IOException {
        asked();
        able();
        met();
        barn();
        refusals();
        end("NeedsEdgesTest", args);
    }
}
