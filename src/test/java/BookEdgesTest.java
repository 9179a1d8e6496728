import java.io.IOException;

/** The boundary sentences of section 3 and of promises 9 to 19: what is told, what counts, what is owed. */
public final class BookEdgesTest extends Edges {

    private static void told() {
        sentence("ENTRIES, 150 at most, numbered from 0 on as they are told.", () -> {
            valley(3);
            text(0, "h");
            bytes(1, 0, 1);
            x.need(0, 0, 1, 0);
            due(0, x.act(0, 1, 1, 0, 1));
            due(1, x.custom(0));
            due(2, x.judge(0, true));
            due(3, x.gift(0));
            due(4, x.forgive(0, 1, 1));
            due(5, x.ring(1, 1));
            due(6, x.meet(0, 1));
            due(7, x.death(2, 0));
            due(8, x.act(0, 1, 1, 0, 0));
            due(9, x.act(1, 0, 1, 0, 0));
            due(1, x.close());
            due(11, x.count(1));
            fillBook(0, 1, FULL - 1);
            due(149, x.act(1, 0, 2, 0, 0));
            due(150, x.count(1));
            due(2, x.entry(149, 4));
            refused(-1, () -> x.entry(150, 0));
            x.need(0, 0, 1, 0);
            allRefused(-2, () -> x.act(0, 1, 1, 0, 0), () -> x.custom(0), () -> x.judge(0, true), () -> x.gift(8), () -> x.forgive(0, 1, 1), () -> x.ring(1, 1),
                () -> x.meet(1, 1), () -> x.death(0, 1));
            due(0, x.close());
        });
        sentence("THE BOOK: ENTRIES, 150 at most", () -> {
            // the last that the book takes, of each sort
            for (int sort = 0; sort < 7; sort++) {
                valley(2);
                text(0, "h");
                bytes(1, 0, 1);
                x.need(0, 0, 1, 0);
                fillBook(0, 1, FULL - 1);
                due(149, sort == 0 ? x.custom(0) : sort == 1 ? x.judge(0, true) : sort == 2 ? x.gift(0) : sort == 3 ? x.forgive(0, 1, 1) : sort == 4 ? x.ring(1, 1)
                    : sort == 5 ? x.meet(0, 1) : x.death(0, 1));
                due(150, x.count(1));
            }
        });
        sentence("CUSTOM: it is in force from THE WEEK on in which it is told.", () -> {
            valley(2);
            x.week(10);
            int[] acts = new int[11];
            for (int w = 8; w <= 10; w++) acts[w] = x.act(0, 1, 3, w, 0);
            customOf("h+40");
            due(3, x.counts(acts[8], -1, 0));
            due(3, x.counts(acts[9], -1, 0));
            due(43, x.counts(acts[10], -1, 0));
            due(3, x.counts(x.act(0, 1, 3, 9, 0), -1, 0));
            due(43, x.counts(x.act(0, 1, 3, 10, 0), -1, 0));
            x.week(11);
            due(43, x.counts(x.act(0, 1, 3, 11, 0), -1, 0));
            due(43, x.counts(x.act(0, 1, 3, 10, 0), -1, 0));
        });
        sentence("ACT: one gave another so many hours (1 .. 20), by night or not, in a WEEK (0 .. THE WEEK): SEEN, or DOUBTED.", () -> {
            valley(2);
            x.week(3);
            allRefused(-1, () -> x.act(0, 1, 0, 0, 0), () -> x.act(0, 1, 21, 0, 0), () -> x.act(0, 1, -1, 0, 0), () -> x.act(0, 1, LOW, 0, 0), () -> x.act(0, 1, HIGH, 0, 0));
            allRefused(-1, () -> x.act(0, 1, 1, -1, 0), () -> x.act(0, 1, 1, 4, 0), () -> x.act(0, 1, 1, 520, 0), () -> x.act(0, 1, 1, LOW, 0), () -> x.act(0, 1, 1, HIGH, 0));
            allRefused(-1, () -> x.act(0, 1, 1, 0, -1), () -> x.act(0, 1, 1, 0, 4), () -> x.act(0, 1, 1, 0, LOW), () -> x.act(0, 1, 1, 0, HIGH));
            due(0, x.act(0, 1, 1, 0, 0));
            due(1, x.act(0, 1, 20, 3, 3));
            due(2, x.act(1, 0, 2, 3, 1));
            due(3, x.act(1, 0, 2, 3, 2));
            customOf("h+n*30");
            due(1, x.counts(0, -1, 0));
            due(0, x.counts(1, -1, 0));
            due(50, x.counts(1, -1, 1));
            due(0, x.counts(2, -1, 0));
            due(2, x.counts(2, -1, 1));
            due(32, x.counts(3, -1, 0));
        });
        sentence("JUDGED: a DOUBTED ACT counts, or not (of several the latest told).", () -> {
            valley(2);
            int a = x.act(0, 1, 5, 0, 1);
            int b = x.act(0, 1, 7, 0, 1);
            due(0, x.counts(a, -1, 0));
            x.judge(a, true);
            due(5, x.counts(a, -1, 0));
            due(0, x.counts(b, -1, 0));
            x.judge(a, false);
            due(0, x.counts(a, -1, 0));
            due(0, x.counts(a, -1, 1));
            due(0, x.counts(a, -1, 2));
            x.judge(a, true);
            x.judge(b, false);
            due(5, x.counts(a, -1, 0));
            due(5, x.counts(a, -1, 3));
            due(0, x.counts(b, -1, 1));
            due(5, x.owed(1, 0, 0, -1, 1));
            // a judgement tells of a late week what counts in an early one
            x.week(50);
            x.judge(b, true);
            due(12, x.owed(1, 0, 0, -1, 0));
        });
        sentence("GIFT: an ACT counts for nothing.", () -> {
            valley(2);
            int a = x.act(0, 1, 5, 0, 0);
            int b = x.act(0, 1, 7, 0, 1);
            x.judge(b, true);
            x.week(20);
            x.gift(a);
            x.gift(b);
            for (int v = 0; v < 4; v++) {
                due(0, x.counts(a, -1, v));
                due(0, x.counts(b, -1, v));
                due(0, x.owed(1, 0, 0, -1, v));
            }
            x.judge(b, true);
            due(0, x.counts(b, -1, 0));
            customOf("h+1");
            due(0, x.counts(a, -1, 0));
        });
        sentence("FORGIVEN: n of the hours that a owes b are gone, in THE WEEK.", () -> {
            valley(2);
            x.act(0, 1, 20, 0, 0);
            x.week(5);
            x.forgive(1, 0, 6);
            due(20, x.owed(1, 0, 4, -1, 0));
            due(14, x.owed(1, 0, 5, -1, 0));
            due(14, x.owed(1, 0, 520, -1, 0));
            due(0, x.owed(0, 1, 5, -1, 0));
        });
        sentence("RING: hours that 2 to 6 of FOLK owe one another in a ring are cancelled, in THE WEEK.", () -> {
            for (int n = 2; n <= 6; n++) {
                valley(7);
                int[] ring = new int[n];
                for (int i = 0; i < n; i++) {
                    ring[i] = i;
                    x.act((i + 1) % n, i, 5 + i, 0, 0);
                }
                x.week(2);
                bytes(0, ring);
                due(n, x.ring(0, 3));
                for (int i = 0; i < n; i++) {
                    due(5 + i, x.owed(i, (i + 1) % n, 1, -1, 0));
                    due(2 + i, x.owed(i, (i + 1) % n, 2, -1, 0));
                }
            }
            valley(7);
            bytes(0, 0);
            refused(-1, () -> x.ring(0, 1));
            bytes(0, 0, 1, 2, 3, 4, 5, 6);
            refused(-1, () -> x.ring(0, 1));
            bytes(0);
            refused(-1, () -> x.ring(0, 1));
        });
        sentence("DEATH: one dies in THE WEEK, with an HEIR.", () -> {
            valley(3);
            x.act(0, 1, 4, 0, 0);
            x.week(6);
            x.death(0, 2);
            due(6, x.about(0, 5));
            due(4, x.owed(1, 0, 5, -1, 0));
            due(0, x.owed(1, 2, 5, -1, 0));
            due(0, x.owed(1, 0, 6, -1, 0));
            due(4, x.owed(1, 2, 6, -1, 0));
            due(1, x.count(5));
        });
    }

    private static void counted() {
        sentence("is by the first e ENTRIES alone (e -1: all).", () -> {
            valley(2);
            x.act(0, 1, 1, 0, 0);
            x.act(0, 1, 2, 0, 0);
            x.act(0, 1, 4, 0, 0);
            int[] sums = {0, 1, 3, 7};
            for (int e = 0; e <= 3; e++) {
                due(sums[e], x.owed(1, 0, 0, e, 0));
                due(sums[e], x.all(0, e, 0));
                due(sums[e], x.balance(0, 0, e, 0));
                for (int a = 0; a < 3; a++) due(a < e ? 1 << a : -1, x.counts(a, e, 0));
            }
            due(7, x.owed(1, 0, 0, -1, 0));
            due(4, x.counts(2, -1, 0));
            for (int bad : new int[] {4, -2, LOW, HIGH, 150}) {
                allRefused(-1, () -> x.owed(1, 0, 0, bad, 0), () -> x.all(0, bad, 0), () -> x.counts(0, bad, 0));
                due(1, thrownByBalance(0, 0, bad, 0));
            }
            // each sort of entry is known only behind itself
            valley(3);
            x.act(0, 1, 9, 0, 1);
            x.judge(0, true);
            customOf("h*2");
            x.forgive(1, 0, 3);
            x.act(1, 0, 20, 0, 0);
            bytes(0, 0, 1);
            x.ring(0, 2);
            x.death(0, 2);
            x.gift(4);
            x.gift(0);
            int[] owed = {0, 0, 9, 18, 15, 15, 13, 0, 0, 0};
            int[] back = {0, 0, 0, 0, 0, 40, 38, 0, 0, 0};
            int[] heirs = {0, 0, 0, 0, 0, 0, 0, 13, 15, 0};
            for (int e = 0; e < 10; e++) {
                due(owed[e], x.owed(1, 0, 0, e, 0));
                due(back[e], x.owed(0, 1, 0, e, 0));
                due(heirs[e], x.owed(1, 2, 0, e, 0));
            }
        });
        sentence("0, if it is a GIFT; 0, if it is JUDGED so; if it is DOUBTED and wasn't JUDGED: by VIEW 0 as nothing, by VIEW 1 as if SEEN, by VIEW 2 and k as if SEEN only if k gave it.", () -> {
            valley(3);
            customOf("h+1");
            int a = x.act(1, 2, 4, 0, 1);
            int[] byView = {0, 5, 0, 5, 0};
            for (int v = 0; v < 5; v++) due(byView[v], x.counts(a, -1, v));
            x.judge(a, false);
            for (int v = 0; v < 5; v++) {
                due(0, x.counts(a, -1, v));
                due(byView[v], x.counts(a, 2, v));
            }
            x.judge(a, true);
            for (int v = 0; v < 5; v++) {
                due(5, x.counts(a, -1, v));
                due(0, x.counts(a, 3, v));
            }
            x.gift(a);
            for (int v = 0; v < 5; v++) {
                due(0, x.counts(a, -1, v));
                due(5, x.counts(a, 4, v));
            }
        });
        sentence("(of CUSTOMS of WEEKS up to that the one told last; without one: the hours told)", () -> {
            valley(2);
            x.week(5);
            due(0, x.act(0, 1, 9, 5, 0));
            due(1, x.act(0, 1, 9, 4, 0));
            customOf("20+h");
            customOf("30+h");
            x.week(6);
            customOf("40+h");
            due(5, x.act(0, 1, 9, 6, 0));
            due(39, x.counts(0, -1, 0));
            due(9, x.counts(1, -1, 0));
            due(49, x.counts(5, -1, 0));
            due(9, x.counts(0, 2, 0));
            due(29, x.counts(0, 3, 0));
            due(39, x.counts(0, 4, 0));
            due(39, x.counts(0, 5, 0));
            // asked again by fewer entries, it is by those
            due(29, x.counts(0, 3, 0));
            due(9, x.counts(0, 1, 0));
        });
        sentence("0 at least, 60 at most.", () -> {
            String[] texts = {"59", "60", "61", "999", "0", "0-1", "0-999", "512*512*512*16", "512*512*512*16-1", "1"};
            int[] counts = {59, 60, 60, 60, 0, 0, 0, 0, 60, 1};
            for (int i = 0; i < texts.length; i++) {
                valley(2);
                customOf(texts[i]);
                due(1, x.act(0, 1, 20, 0, 0));
                due(counts[i], x.counts(1, -1, 0));
                due(counts[i], x.owed(1, 0, 0, -1, 0));
                due(-counts[i], x.balance(1, 0, -1, 0));
            }
            // the hours told stand as they are
            valley(2);
            x.act(0, 1, 20, 0, 0);
            due(20, x.counts(0, -1, 0));
        });
        sentence("VIEWS are 0, 1, and 2 and the number of one of FOLK.", () -> {
            for (int folk = 0; folk <= 12; folk += 4) {
                valley(folk);
                for (int v = 0; v < 2 + folk; v++) due(0, x.all(0, -1, v));
                for (int bad : new int[] {-1, 2 + folk, 14, LOW, HIGH}) {
                    allRefused(-1, () -> x.all(0, -1, bad), () -> x.owed(0, 1, 0, -1, bad), () -> x.counts(0, -1, bad));
                    due(1, thrownByBalance(0, 0, -1, bad));
                }
                if (folk > 1) {
                    x.act(folk - 1, 0, 3, 0, 1);
                    due(3, x.counts(0, -1, folk + 1));
                    due(3, x.owed(0, folk - 1, 0, -1, folk + 1));
                    due(0, x.owed(0, folk - 1, 0, -1, folk));
                    refused(-1, () -> x.counts(0, -1, x.count(0) + 2));
                }
            }
        });
    }

    private static void owed() {
        sentence("nobody owes at first; ENTRIES of WEEKS up to w go by one behind the other, by WEEKS, in a WEEK as they were told.", () -> {
            valley(2);
            due(0, x.owed(0, 1, 0, -1, 0));
            due(0, x.all(520, -1, 1));
            x.week(9);
            x.forgive(1, 0, 4);
            // told behind, but of an earlier week; and of the same week
            x.act(0, 1, 10, 8, 0);
            due(10, x.owed(1, 0, 8, -1, 0));
            due(6, x.owed(1, 0, 9, -1, 0));
            x.act(0, 1, 1, 9, 0);
            due(7, x.owed(1, 0, 9, -1, 0));
            due(10, x.owed(1, 0, 8, -1, 0));
            due(0, x.owed(1, 0, 7, -1, 0));
            x.act(0, 1, 2, 0, 0);
            due(2, x.owed(1, 0, 0, -1, 0));
            due(2, x.owed(1, 0, 7, -1, 0));
            due(12, x.owed(1, 0, 8, -1, 0));
            due(9, x.owed(1, 0, 9, -1, 0));
            due(9, x.owed(1, 0, 520, -1, 0));
            // entries of six weeks, told in all kinds of orders: each is forgiven what is owed by then
            int[][] orders = {{0, 5, 3, 1, 4, 2}, {5, 4, 3, 2, 1, 0}, {0, 1, 2, 3, 4, 5}, {2, 0, 4, 1, 5, 3}, {1, 5, 0, 4, 2, 3}};
            for (int[] order : orders) {
                valley(3);
                x.act(2, 1, 1, 0, 0);
                x.week(3);
                x.forgive(1, 0, 1000);
                x.week(5);
                for (int w : order) x.act(0, 1, w + 1, w, 0);
                int[] sums = {1, 3, 6, 4, 9, 15};
                for (int w = 0; w < 6; w++) due(sums[w], x.owed(1, 0, w, -1, 0));
            }
            // forgiven in one week ahead of, and behind, what is owed
            valley(2);
            x.forgive(1, 0, 5);
            x.act(0, 1, 3, 0, 0);
            due(3, owedNow(1, 0));
            x.forgive(1, 0, 5);
            due(0, owedNow(1, 0));
            x.act(0, 1, 3, 0, 0);
            due(3, owedNow(1, 0));
        });
        sentence("ACT: who took owes who gave so many more as it COUNTS.", () -> {
            valley(3);
            customOf("h*2");
            x.act(1, 2, 7, 0, 0);
            x.act(1, 2, 1, 0, 2);
            x.act(1, 2, 9, 0, 1);
            due(16, owedNow(2, 1));
            due(0, owedNow(1, 2));
            due(16, x.all(0, -1, 0));
            due(34, x.owed(2, 1, 0, -1, 1));
            due(34, x.owed(2, 1, 0, -1, 3));
        });
        sentence("FORGIVEN: a owes b n less, 0 at least.", () -> {
            valley(3);
            x.act(0, 1, 10, 0, 0);
            x.act(0, 2, 10, 0, 0);
            x.forgive(1, 0, 9);
            due(1, owedNow(1, 0));
            x.forgive(1, 0, 1);
            due(0, owedNow(1, 0));
            x.forgive(1, 0, 1);
            due(0, owedNow(1, 0));
            due(10, owedNow(2, 0));
            x.forgive(2, 0, 1000);
            due(0, owedNow(2, 0));
            x.act(0, 1, 2, 0, 0);
            due(2, owedNow(1, 0));
            due(2, x.balance(0, 0, -1, 0));
            x.forgive(0, 1, 7);
            due(2, owedNow(1, 0));
            due(0, owedNow(0, 1));
        });
        sentence("RING f0, f1, .. of n: each fi owes the next one (the last one f0) m less, m being the least of n and of what each of these owes the next one then.", () -> {
            int[] off = {1, 4, 5, 6, 1000};
            for (int n : off) {
                valley(4);
                x.act(2, 3, 9, 0, 0);
                x.act(1, 2, 5, 0, 0);
                x.act(3, 1, 7, 0, 0);
                x.act(3, 2, 8, 0, 0);
                bytes(0, 3, 2, 1);
                x.ring(0, n);
                int m = Math.min(n, 5);
                due(9 - m, owedNow(3, 2));
                due(5 - m, owedNow(2, 1));
                due(7 - m, owedNow(1, 3));
                due(8, owedNow(2, 3));
                due(0, owedNow(1, 2));
                // what is told of an earlier entry later works on the ring anew
                x.act(1, 2, 1, 0, 0);
                due(6 - m, owedNow(2, 1));
            }
            // where one owes the next one nothing, nothing is cancelled
            valley(3);
            x.act(1, 0, 5, 0, 0);
            x.act(2, 1, 5, 0, 0);
            bytes(0, 0, 1, 2);
            x.ring(0, 3);
            due(5, owedNow(0, 1));
            due(5, owedNow(1, 2));
            due(0, owedNow(2, 0));
            x.act(0, 2, 5, 0, 0);
            due(5, owedNow(2, 0));
            due(5, owedNow(0, 1));
            // the ring of a later week finds what is told into an earlier one
            x.week(1);
            x.ring(0, 9);
            due(0, x.all(1, -1, 0));
            x.act(2, 1, 5, 0, 0);
            due(5, x.all(1, -1, 0));
            x.gift(0);
            due(15, x.all(1, -1, 0));
        });
        sentence("DEATH of x with HEIR z: what each y owes x it owes z besides what it owes z already (z itself none any more); what x owes is gone.", () -> {
            valley(4);
            x.act(0, 1, 4, 0, 0);
            x.act(0, 2, 5, 0, 0);
            x.act(0, 3, 6, 0, 0);
            x.act(2, 1, 7, 0, 0);
            x.act(1, 0, 8, 0, 0);
            x.act(2, 0, 9, 0, 0);
            x.death(0, 2);
            due(11, owedNow(1, 2));
            due(6, owedNow(3, 2));
            due(0, owedNow(2, 2));
            for (int k = 0; k < 4; k++) {
                due(0, owedNow(0, k));
                due(0, owedNow(k, 0));
            }
            due(17, x.all(0, -1, 0));
            due(17, x.balance(2, 0, -1, 0));
            due(0, x.balance(0, 0, -1, 0));
            // each of the others, the first and the last ones too
            for (int dead = 0; dead < 12; dead++) {
                valley(12);
                int heir = (dead + 7) % 12;
                for (int y = 0; y < 12; y++) if (y != dead) x.act(dead, y, y + 1, 0, 0);
                for (int y = 0; y < 12; y++) if (y != dead) x.act(y, dead, 20, 0, 0);
                x.death(dead, heir);
                for (int y = 0; y < 12; y++) {
                    due(y == dead || y == heir ? 0 : y + 1, owedNow(y, heir));
                    due(0, owedNow(y, dead));
                    due(0, owedNow(dead, y));
                }
                due(78 - dead - heir - 2, x.all(0, -1, 0));
            }
            valley(4);
            x.act(0, 1, 4, 0, 0);
            x.act(0, 2, 5, 0, 0);
            x.act(0, 3, 6, 0, 0);
            x.act(2, 1, 7, 0, 0);
            x.death(0, 2);
            // hours go on and on
            x.death(2, 3);
            due(11, owedNow(1, 3));
            due(11, x.all(0, -1, 0));
            // those of an act of an earlier week go on too; those told behind, of its own week, do not
            x.week(1);
            x.act(0, 1, 3, 0, 0);
            due(3, owedNow(1, 0));
            valley(3);
            x.week(1);
            x.death(0, 2);
            x.act(0, 1, 3, 0, 0);
            x.act(0, 1, 2, 1, 0);
            x.act(1, 0, 5, 0, 0);
            x.act(1, 0, 6, 1, 0);
            due(3, owedNow(1, 2));
            due(2, owedNow(1, 0));
            due(6, owedNow(0, 1));
            due(11, x.all(1, -1, 0));
        });
        sentence("JUDGED, GIFT, CUSTOM: nothing by themselves (but they tell what ACTS COUNT).", () -> {
            valley(2);
            x.act(0, 1, 3, 0, 1);
            x.act(0, 1, 5, 0, 0);
            x.week(30);
            x.judge(0, true);
            x.gift(1);
            customOf("h*2");
            due(3, x.all(0, -1, 0));
            due(3, x.all(30, -1, 0));
            due(5, x.all(0, 2, 0));
            due(8, x.all(0, 3, 0));
        });
        sentence("BALANCE of one: what all owe it less what it owes all.", () -> {
            valley(4);
            x.act(0, 1, 4, 0, 0);
            x.act(0, 2, 5, 0, 0);
            x.act(1, 0, 20, 0, 0);
            x.act(3, 2, 1, 0, 1);
            int[] view0 = {-11, 16, -5, 0};
            int[] view1 = {-11, 16, -6, 1};
            for (int k = 0; k < 4; k++) {
                due(view0[k], x.balance(k, 0, -1, 0));
                due(view1[k], x.balance(k, 0, -1, 1));
                due(view1[k], x.balance(k, 520, -1, 5));
                due(0, x.balance(k, 0, 0, 1));
            }
        });
    }

    private static void dead() {
        sentence("One who died (by all) in a WEEK can't be told in ACTS of later WEEKS, nor in RINGS, FORGIVEN, DEATHS, NEEDS from then on.", () -> {
            valley(4);
            x.week(3);
            x.death(0, 1);
            bytes(0, 0, 2);
            bytes(1, 2, 3, 0);
            // in its week and in earlier ones it can still be told in acts
            due(1, x.act(0, 2, 1, 3, 0));
            due(2, x.act(2, 0, 1, 3, 0));
            due(3, x.act(0, 2, 1, 0, 0));
            for (int w = 3; w < 5; w++) {
                x.week(w);
                allRefused(-3, () -> x.ring(0, 1), () -> x.ring(1, 1), () -> x.forgive(0, 2, 1), () -> x.forgive(2, 0, 1), () -> x.death(0, 2), () -> x.death(2, 0), () -> x.need(0, 0, 1, x.count(2)));
            }
            allRefused(-3, () -> x.act(0, 2, 1, 4, 0), () -> x.act(2, 0, 1, 4, 0));
            due(4, x.act(0, 2, 1, 3, 0));
            due(5, x.act(2, 3, 1, 4, 0));
            due(6, x.forgive(2, 1, 1));
            bytes(0, 3, 2, 1);
            due(7, x.ring(0, 1));
            due(8, x.death(2, 3));
        });
    }

    private static void calls() {
        sentence("An ACT (how = 0 SEEN, 1 DOUBTED, and 2 more by night): the ENTRY's number. -1 (one twice, too); -2; -3: one was dead then.", () -> {
            valley(3);
            allRefused(-1, () -> x.act(0, 0, 1, 0, 0), () -> x.act(-1, 0, 1, 0, 0), () -> x.act(0, -1, 1, 0, 0), () -> x.act(3, 0, 1, 0, 0), () -> x.act(0, 3, 1, 0, 0), () -> x.act(LOW, HIGH, 1, 0, 0));
            x.death(0, 1);
            x.week(1);
            allRefused(-3, () -> x.act(0, 1, 1, 1, 0), () -> x.act(1, 0, 1, 1, 0));
            allRefused(-1, () -> x.act(0, 0, 1, 1, 0), () -> x.act(0, 1, 0, 1, 0), () -> x.act(0, 1, 1, 2, 0), () -> x.act(0, 1, 1, 1, 4));
            fillBook(1, 2, FULL);
            allRefused(-2, () -> x.act(0, 1, 1, 1, 0), () -> x.act(1, 2, 1, 1, 0));
            allRefused(-1, () -> x.act(1, 1, 1, 0, 0), () -> x.act(1, 2, 21, 0, 0));
        });
        sentence("JUDGED: the ENTRY's number. -1 (no ACT); -2; -3: it isn't DOUBTED.", () -> {
            valley(2);
            text(0, "h");
            x.act(0, 1, 1, 0, 0);
            x.act(0, 1, 1, 0, 2);
            x.act(0, 1, 1, 0, 1);
            x.act(0, 1, 1, 0, 3);
            x.custom(0);
            allRefused(-3, () -> x.judge(0, true), () -> x.judge(0, false), () -> x.judge(1, true));
            allRefused(-1, () -> x.judge(4, true), () -> x.judge(5, true), () -> x.judge(-1, false), () -> x.judge(LOW, false), () -> x.judge(HIGH, true), () -> x.judge(150, true));
            due(5, x.judge(2, true));
            due(6, x.judge(3, false));
            due(7, x.judge(2, true));
            refused(-1, () -> x.judge(5, true));
            x.gift(2);
            due(9, x.judge(2, false));
            fillBook(0, 1, FULL);
            allRefused(-2, () -> x.judge(0, true), () -> x.judge(2, true));
            allRefused(-1, () -> x.judge(4, true), () -> x.judge(150, true));
        });
        sentence("GIFT: the ENTRY's number. -1 (no ACT); -2; -3: it is one.", () -> {
            valley(2);
            text(0, "h");
            x.act(0, 1, 1, 0, 0);
            x.act(0, 1, 1, 0, 1);
            x.custom(0);
            due(3, x.gift(0));
            refused(-3, () -> x.gift(0));
            allRefused(-1, () -> x.gift(2), () -> x.gift(3), () -> x.gift(4), () -> x.gift(-1), () -> x.gift(LOW), () -> x.gift(HIGH), () -> x.gift(150));
            due(4, x.gift(1));
            refused(-3, () -> x.gift(1));
            x.act(0, 1, 1, 0, 0);
            fillBook(0, 1, FULL);
            allRefused(-2, () -> x.gift(0), () -> x.gift(5));
            allRefused(-1, () -> x.gift(2), () -> x.gift(150));
        });
        sentence("FORGIVEN: n (1 .. 1000) of what a owes b: the ENTRY's number. -1; -2; -3: one is dead.", () -> {
            valley(4);
            allRefused(-1, () -> x.forgive(0, 1, 0), () -> x.forgive(0, 1, 1001), () -> x.forgive(0, 1, -1), () -> x.forgive(0, 1, LOW), () -> x.forgive(0, 1, HIGH));
            allRefused(-1, () -> x.forgive(-1, 1, 1), () -> x.forgive(0, -1, 1), () -> x.forgive(4, 1, 1), () -> x.forgive(0, 4, 1));
            due(0, x.forgive(0, 1, 1));
            due(1, x.forgive(1, 0, 1000));
            // the document names no refusal of one twice here; nobody owes itself anything
            due(2, x.forgive(1, 1, 5));
            due(0, owedNow(1, 1));
            x.death(3, 0);
            allRefused(-3, () -> x.forgive(3, 0, 1), () -> x.forgive(0, 3, 1), () -> x.forgive(3, 3, 1));
            allRefused(-1, () -> x.forgive(3, 0, 0), () -> x.forgive(3, 4, 1));
            fillBook(0, 1, FULL);
            allRefused(-2, () -> x.forgive(3, 0, 1), () -> x.forgive(0, 1, 1));
            allRefused(-1, () -> x.forgive(0, 1, 0), () -> x.forgive(0, 4, 1));
        });
        rings();
        sentence("`int death(int who, int heir)`: DEATH: the ENTRY's number. -1 (one twice, too); -2; -3: one is dead.", () -> {
            valley(4);
            allRefused(-1, () -> x.death(0, 0), () -> x.death(-1, 0), () -> x.death(0, -1), () -> x.death(4, 0), () -> x.death(0, 4), () -> x.death(LOW, HIGH));
            due(0, x.death(0, 1));
            allRefused(-3, () -> x.death(0, 1), () -> x.death(0, 2), () -> x.death(2, 0));
            refused(-1, () -> x.death(0, 0));
            due(1, x.death(1, 2));
            due(2, x.death(2, 3));
            allRefused(-3, () -> x.death(3, 0), () -> x.death(3, 2), () -> x.death(0, 3));
            valley(3);
            x.death(2, 0);
            fillBook(0, 1, FULL);
            allRefused(-2, () -> x.death(0, 1), () -> x.death(2, 1), () -> x.death(0, 2));
            allRefused(-1, () -> x.death(0, 0), () -> x.death(0, 3));
            due(-4, x.about(0, 5));
            due(1, x.count(5));
        });
        asking();
    }

    private static void rings() {
        sentence("RING of n (1 .. 1000) by the ROW of bytes in SHELF d (2 .. 6 of FOLK, none twice): the ENTRY's number.", () -> {
            valley(12);
            bytes(0, 0, 11);
            allRefused(-1, () -> x.ring(0, 0), () -> x.ring(0, 1001), () -> x.ring(0, -1), () -> x.ring(0, LOW), () -> x.ring(0, HIGH));
            due(0, x.ring(0, 1));
            due(1, x.ring(0, 1000));
            bytes(0, 11, 3, 5, 7, 1, 2);
            due(2, x.ring(0, 1));
            due(11, x.entry(2, 2));
            due(3, x.entry(2, 3));
            int[][] bad = {{}, {0}, {0, 1, 2, 3, 4, 5, 6}, {0, 0}, {0, 1, 0}, {1, 0, 0}, {0, 1, 2, 3, 4, 0}, {0, 12}, {12, 0}, {0, -1}, {-128, 1}, {0, 127}, {1, 2, 3, 4, 5, 5}, {0, 1, 2, 3, 4, 12}};
            for (int[] ring : bad) {
                bytes(0, ring);
                refused(-1, () -> x.ring(0, 1));
            }
            x.row(0, 0, 80);
            refused(-1, () -> x.ring(0, 1));
            // lowest bits: 256 + 1 is 1; 254 is -2
            bytes(0, 257, 512);
            due(3, x.ring(0, 1));
            due(1, x.entry(3, 2));
            due(0, x.entry(3, 3));
            bytes(0, 254, 1);
            refused(-1, () -> x.ring(0, 1));
        });
        sentence("-1, -2, -11, -12, -3 (one is dead), in this order; -1 also if the ROW isn't as told (behind -12).", () -> {
            valley(4);
            x.act(1, 0, 5, 0, 0);
            x.act(0, 1, 5, 0, 0);
            x.death(3, 0);
            x.keep(1, 1, 0);
            shorts(2, 0, 1);
            ints(3, 0, 1);
            bytes(4, 0, 3);
            bytes(5, 3, 3);
            bytes(6, 3, 4);
            bytes(7, 3);
            allRefused(-1, () -> x.ring(-1, 1), () -> x.ring(8, 1), () -> x.ring(0, 0), () -> x.ring(1, 0), () -> x.ring(4, 1001), () -> x.ring(8, 0));
            refused(-11, () -> x.ring(0, 1));
            allRefused(-12, () -> x.ring(1, 1), () -> x.ring(2, 1), () -> x.ring(3, 1));
            allRefused(-1, () -> x.ring(5, 1), () -> x.ring(6, 1), () -> x.ring(7, 1));
            refused(-3, () -> x.ring(4, 1));
            fillBook(0, 1, FULL);
            bytes(5, 0, 1);
            for (int d = 0; d < 8; d++) {
                int shelf = d;
                refused(-2, () -> x.ring(shelf, 1));
            }
            allRefused(-1, () -> x.ring(8, 1), () -> x.ring(0, 0), () -> x.ring(4, 1001));
        });
        sentence("`int ring(int d, int n)`", () -> {
            // as the row stood when it was told
            valley(3);
            x.act(1, 0, 5, 0, 0);
            x.act(0, 1, 5, 0, 0);
            bytes(0, 0, 1);
            x.ring(0, 2);
            x.put(0, 1, 2);
            due(3, owedNow(0, 1));
            x.row(0, 0, 0);
            due(3, owedNow(1, 0));
            due(1, x.entry(2, 3));
        });
    }

    private static void asking() {
        sentence("2, 3 who gave, took; the ACT, 1 or 0 (JUDGED); the ACT (GIFT; 3: -4); a, b; the first, second of a RING; who died, the HEIR; -4 (CUSTOM), 4 hours, n (-4: others). -1.", () -> {
            valley(4);
            x.week(2);
            bytes(1, 3, 1, 2);
            customOf("h");
            x.act(2, 1, 20, 1, 3);
            x.judge(1, false);
            x.judge(1, true);
            x.gift(1);
            x.forgive(3, 2, 1000);
            x.ring(1, 999);
            x.need(0, 0, 12, 2);
            x.folk(2, 0, 31);
            x.meet(0, 4);
            x.death(3, 1);
            int[][] want = {{0, 2, -4, -4, -4}, {1, 1, 2, 1, 20}, {2, 2, 1, 0, -4}, {2, 2, 1, 1, -4}, {3, 2, 1, -4, -4}, {4, 2, 3, 2, 1000}, {5, 2, 3, 1, 999}, {1, 2, 4, 0, 12}, {6, 2, 3, 1, -4}};
            for (int e = 0; e < want.length; e++) {
                int entry = e;
                for (int k = 0; k < 5; k++) due(want[e][k], x.entry(e, k));
                allRefused(-1, () -> x.entry(entry, -1), () -> x.entry(entry, 5), () -> x.entry(entry, LOW), () -> x.entry(entry, HIGH));
            }
            allRefused(-1, () -> x.entry(9, 0), () -> x.entry(-1, 0), () -> x.entry(LOW, 0), () -> x.entry(HIGH, 0), () -> x.entry(150, 0), () -> x.entry(9, 5));
        });
        sentence("Of an ENTRY: 0 what (0 CUSTOM, 1 ACT, 2 JUDGED, 3 GIFT, 4 FORGIVEN, 5 RING, 6 DEATH)", () -> {
            valley(3);
            bytes(1, 0, 1);
            customOf("h");
            x.act(0, 1, 1, 0, 1);
            x.judge(1, true);
            x.gift(1);
            x.forgive(0, 1, 1);
            x.ring(1, 1);
            x.death(2, 0);
            for (int e = 0; e < 7; e++) due(e, x.entry(e, 0));
            refused(-1, () -> x.entry(7, 0));
        });
        sentence("1 its WEEK (of JUDGED, GIFT: in which it was told)", () -> {
            valley(2);
            x.act(0, 1, 1, 0, 1);
            x.week(7);
            x.judge(0, true);
            x.week(8);
            x.gift(0);
            due(0, x.entry(0, 1));
            due(7, x.entry(1, 1));
            due(8, x.entry(2, 1));
        });
        sentence("What an ACT COUNTS by e and a VIEW (0, 1, or 2 and k). -1 (no ACT by e, too).", () -> {
            valley(2);
            customOf("h");
            due(1, x.act(0, 1, 6, 0, 0));
            x.gift(1);
            allRefused(-1, () -> x.counts(0, -1, 0), () -> x.counts(2, -1, 0), () -> x.counts(3, -1, 0), () -> x.counts(-1, -1, 0), () -> x.counts(LOW, -1, 0), () -> x.counts(HIGH, -1, 0));
            allRefused(-1, () -> x.counts(1, 0, 0), () -> x.counts(1, 1, 0), () -> x.counts(1, 4, 0), () -> x.counts(1, -2, 0), () -> x.counts(1, -1, 4), () -> x.counts(1, -1, -1));
            due(6, x.counts(1, 2, 0));
            due(6, x.counts(1, 2, 3));
            due(0, x.counts(1, 3, 3));
        });
        sentence("What a owes b as of a WEEK by e and a VIEW. -1.", () -> {
            valley(2);
            x.act(0, 1, 6, 0, 0);
            allRefused(-1, () -> x.owed(-1, 0, 0, -1, 0), () -> x.owed(0, -1, 0, -1, 0), () -> x.owed(2, 0, 0, -1, 0), () -> x.owed(0, 2, 0, -1, 0), () -> x.owed(11, 0, 0, -1, 0), () -> x.owed(0, 12, 0, -1, 0));
            due(6, x.owed(1, 0, 0, -1, 0));
            due(0, x.owed(0, 0, 0, -1, 0));
            due(0, x.owed(1, 1, 520, 1, 3));
        });
        sentence("BALANCE as of a WEEK by e and a VIEW. IllegalArgumentException: no such.", () -> {
            valley(2);
            x.act(0, 1, 6, 0, 0);
            for (int bad : new int[] {-1, 2, 11, 12, LOW, HIGH}) due(1, thrownByBalance(bad, 0, -1, 0));
            for (int bad : new int[] {-1, 521}) due(1, thrownByBalance(0, bad, -1, 0));
            for (int bad : new int[] {-2, 2}) due(1, thrownByBalance(0, 0, bad, 0));
            for (int bad : new int[] {-1, 4}) due(1, thrownByBalance(0, 0, -1, bad));
            due(6, x.balance(0, 520, 1, 3));
            due(-6, x.balance(1, 0, -1, 0));
        });
        sentence("All that is owed as of a WEEK by e and a VIEW. -1.", () -> {
            valley(12);
            customOf("60");
            for (int i = 0; i < 149; i++) x.act(i % 12, (i + 1 + i / 12 % 11) % 12, 1, 0, 0);
            due(150, x.count(1));
            due(60 * 149, x.all(0, -1, 0));
            due(60 * 149, x.all(520, 150, 13));
            due(60 * 148, x.all(0, 149, 0));
            due(0, x.all(0, 1, 0));
            allRefused(-1, () -> x.all(0, 151, 0), () -> x.all(0, -1, 14), () -> x.all(-1, -1, 0));
        });
        sentence("6 DOUBTED ACTS not JUDGED yet", () -> {
            valley(2);
            due(0, x.count(6));
            for (int how = 0; how < 4; how++) x.act(0, 1, 1, 0, how);
            due(2, x.count(6));
            x.gift(1);
            due(2, x.count(6));
            x.judge(1, false);
            due(1, x.count(6));
            x.judge(1, true);
            due(1, x.count(6));
            x.judge(3, true);
            due(0, x.count(6));
            valley(2);
            for (int i = 1; i <= 75; i++) {
                x.act(0, 1, 1, 0, 1);
                due(i, x.count(6));
            }
            for (int i = 0; i < 75; i++) {
                x.judge(i, i % 2 == 0);
                due(74 - i, x.count(6));
            }
        });
    }

    public static void main(String[] args) throws IOException {
        told();
        counted();
        owed();
        dead();
        calls();
        end("BookEdgesTest", args);
    }
}
