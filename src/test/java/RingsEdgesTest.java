import java.io.IOException;

/** The boundary sentences of section 4 and of promises 20 to 24: the ring, closing, the most, prices. */
public final class RingsEdgesTest extends Edges {

    /** Let a owe b so many hours more, in acts of week 0. */
    private static void owe(int a, int b, int hours) {
        for (int left = hours; left > 0; left -= 20) x.act(b, a, Math.min(left, 20), 0, 0);
    }

    /** Let these owe one another so many hours in a ring. */
    private static void oweRound(int hours, int... ring) {
        for (int i = 0; i < ring.length; i++) owe(ring[i], ring[(i + 1) % ring.length], hours);
    }

    private static void theRingIs(int hours, int... ring) {
        due(hours, x.shortest(-1));
        for (int i = 0; i < ring.length; i++) due(ring[i], x.shortest(i));
        due(-4, x.shortest(ring.length));
    }

    private static void theRing() {
        sentence("RINGS (by all, as of THE WEEK, VIEW 0).", () -> {
            valley(2);
            owe(0, 1, 5);
            x.act(0, 1, 7, 0, 1);
            due(-4, x.shortest(-1));
            due(0, x.most());
            due(0, x.close());
            x.judge(1, true);
            theRingIs(5, 0, 1);
            due(10, x.most());
            x.week(4);
            x.forgive(0, 1, 2);
            theRingIs(3, 0, 1);
            due(6, x.most());
            ints(0, 0, 0);
            due(10, x.bound(0));
            x.gift(1);
            due(-4, x.shortest(-1));
            due(3, x.bound(0));
        });
        sentence("of all rings of 2 to 6 of FOLK in which each owes the next one something the one with the fewest", () -> {
            int[] all = {0, 1, 2, 3, 4, 5, 6};
            for (int n = 2; n <= 6; n++) {
                valley(7);
                int[] ring = java.util.Arrays.copyOf(all, n);
                oweRound(n, ring);
                theRingIs(n, ring);
            }
            for (int n = 7; n <= 12; n++) {
                valley(12);
                int[] ring = new int[n];
                for (int i = 0; i < n; i++) ring[i] = i;
                oweRound(3, ring);
                due(-4, x.shortest(-1));
                due(-4, x.shortest(0));
                due(0, x.close());
                due(3 * n, x.most());
            }
            // one alone is no ring
            valley(1);
            due(-4, x.shortest(-1));
            // fewer go ahead of a lesser row
            valley(12);
            oweRound(9, 0, 1, 2, 3, 4, 5);
            theRingIs(9, 0, 1, 2, 3, 4, 5);
            oweRound(8, 1, 2, 3, 4, 6);
            theRingIs(8, 1, 2, 3, 4, 6);
            oweRound(7, 8, 11, 10, 9);
            theRingIs(7, 8, 11, 10, 9);
            oweRound(6, 10, 9, 8);
            theRingIs(6, 8, 10, 9);
            oweRound(4, 11, 5);
            theRingIs(4, 5, 11);
        });
        sentence("of several the least as a row (it begins with its least member)", () -> {
            valley(12);
            oweRound(2, 11, 9);
            theRingIs(2, 9, 11);
            oweRound(3, 10, 9);
            theRingIs(3, 9, 10);
            oweRound(4, 8, 11);
            theRingIs(4, 8, 11);
            oweRound(5, 2, 10);
            theRingIs(5, 2, 10);
            oweRound(6, 2, 3);
            theRingIs(6, 2, 3);
            // of three, by numbers and not by how these are written
            valley(12);
            oweRound(2, 0, 11, 10);
            theRingIs(2, 0, 11, 10);
            oweRound(3, 8, 0, 9);
            theRingIs(3, 0, 9, 8);
            oweRound(4, 3, 7, 0);
            theRingIs(4, 0, 3, 7);
            oweRound(5, 2, 6, 0);
            theRingIs(5, 0, 2, 6);
            oweRound(6, 0, 2, 5);
            theRingIs(6, 0, 2, 5);
            oweRound(1, 4, 0, 1);
            theRingIs(1, 0, 1, 4);
            // of six
            valley(12);
            oweRound(2, 0, 1, 2, 3, 4, 6);
            theRingIs(2, 0, 1, 2, 3, 4, 6);
            owe(4, 5, 2);
            owe(5, 0, 1);
            theRingIs(1, 0, 1, 2, 3, 4, 5);
        });
        sentence("its HOURS: the least that one of it owes the next one.", () -> {
            for (int low = 0; low < 3; low++) {
                valley(3);
                owe(0, 1, low == 0 ? 2 : 9);
                owe(1, 2, low == 1 ? 2 : 9);
                owe(2, 0, low == 2 ? 2 : 9);
                theRingIs(2, 0, 1, 2);
            }
            valley(2);
            owe(0, 1, 1);
            due(-4, x.shortest(-1));
            owe(1, 0, 20);
            theRingIs(1, 0, 1);
        });
        sentence("THE RING: its HOURS (i -1), its i-th member, from 0; -4: there is none, or not so many. -1.", () -> {
            allRefused(-1, () -> x.shortest(-2), () -> x.shortest(LOW));
            allRefused(-4, () -> x.shortest(-1), () -> x.shortest(0), () -> x.shortest(5));
            valley(6);
            allRefused(-4, () -> x.shortest(-1), () -> x.shortest(0));
            oweRound(4, 0, 1, 2, 3, 4, 5);
            due(4, x.shortest(-1));
            due(0, x.shortest(0));
            due(5, x.shortest(5));
            allRefused(-4, () -> x.shortest(6), () -> x.shortest(7), () -> x.shortest(HIGH));
            oweRound(7, 5, 4);
            due(4, x.shortest(0));
            due(5, x.shortest(1));
            refused(-4, () -> x.shortest(2));
            allRefused(-1, () -> x.shortest(-2), () -> x.shortest(LOW));
        });
    }

    private static long seed = 11;

    private static int random(int n) {
        seed = seed * 6364136223846793005L + 1442695040888963407L;
        return (int) ((seed >>> 33) % n);
    }

    /** The most by trying out, pair by pair, all that could be taken off; over is what each would owe too little. */
    private static int triedOut(int[][] owes, int pair, int[] over) {
        int n = over.length;
        if (pair == n * n) {
            for (int o : over) if (o != 0) return -1;
            return 0;
        }
        int a = pair / n;
        int b = pair % n;
        int most = -1;
        for (int off = 0; off <= owes[a][b]; off++) {
            over[a] += off;
            over[b] -= off;
            int rest = triedOut(owes, pair + 1, over);
            over[a] -= off;
            over[b] += off;
            if (rest >= 0) most = Math.max(most, off + rest);
        }
        return most;
    }

    /** The least bound of all prices from -n to n of one after the other, the first one's being 0. */
    private static int leastBound(int[] prices, int one) {
        int n = prices.length;
        if (one == n) {
            ints(0, prices);
            return x.bound(0);
        }
        int least = HIGH;
        for (prices[one] = -n; prices[one] <= n; prices[one]++) least = Math.min(least, leastBound(prices, one + 1));
        return least;
    }

    /** Goes on to prices with a lesser bound, some of the folk one up at a time, till there are none: these prove. */
    private static void provedBySteps() {
        int n = x.count(0);
        int[] prices = new int[n];
        ints(0, prices);
        int least = x.bound(0);
        boolean lesser = true;
        while (lesser) {
            lesser = false;
            for (int some = 1; some < 1 << n && !lesser; some++) {
                for (int k = 0; k < n; k++) x.put(0, k, prices[k] + (some >> k & 1));
                int bound = x.bound(0);
                lesser = bound < least;
                if (!lesser) continue;
                least = bound;
                for (int k = 0; k < n; k++) prices[k] += some >> k & 1;
            }
        }
        ints(0, prices);
        due(1, x.proves(0));
        due(least, x.most());
    }

    private static void closing() {
        sentence("CLOSED: THE RING is told as an ENTRY with its HOURS, then the next one, till there is none (or THE BOOK is full).", () -> {
            valley(4);
            owe(0, 1, 5);
            owe(1, 0, 3);
            owe(1, 2, 4);
            owe(2, 0, 1);
            owe(2, 3, 8);
            owe(3, 2, 8);
            x.week(3);
            int[][] told = {{0, 1, 3}, {2, 3, 8}, {0, 1, 1}};
            due(3, x.close());
            due(9, x.count(1));
            for (int i = 0; i < 3; i++) {
                due(5, x.entry(6 + i, 0));
                due(3, x.entry(6 + i, 1));
                for (int k = 0; k < 3; k++) due(told[i][k], x.entry(6 + i, 2 + k));
            }
            due(1, owedNow(0, 1));
            due(3, owedNow(1, 2));
            due(4, x.all(3, -1, 0));
            due(29, x.all(2, -1, 0));
            due(-4, x.shortest(-1));
            due(0, x.close());
            due(9, x.count(1));
        });
        sentence("(or THE BOOK is full)", () -> {
            for (int room = 0; room <= 3; room++) {
                valley(7);
                oweRound(2, 0, 1);
                oweRound(2, 2, 3);
                oweRound(2, 4, 5);
                fillBook(0, 6, FULL - room);
                due(room, x.close());
                due(150, x.count(1));
                due(room == 3 ? -4 : 2 * room, x.shortest(0));
                due(0, x.close());
            }
        });
        sentence("CLOSED: how many RINGS were told.", () -> {
            due(0, x.close());
            valley(12);
            due(0, x.close());
            for (int a = 0; a < 12; a += 2) oweRound(1, a, a + 1);
            due(6, x.close());
            due(18, x.count(1));
            // more hours than a ring may be told with by hand
            valley(2);
            customOf("60");
            for (int i = 0; i < 25; i++) {
                x.act(0, 1, 1, 0, 0);
                x.act(1, 0, 1, 0, 0);
            }
            due(1500, x.shortest(-1));
            due(3000, x.most());
            due(1, x.close());
            due(1500, x.entry(51, 4));
            due(0, x.all(0, -1, 0));
            // one who is dead owes and is owed by acts of its week that are told behind
            valley(2);
            x.death(0, 1);
            oweRound(4, 0, 1);
            theRingIs(4, 0, 1);
            due(1, x.close());
            due(0, x.all(0, -1, 0));
        });
    }

    private static void theMost() {
        sentence("THE MOST: the greatest sum of hours that could be taken off at once (of each pair up to what is owed, in whole hours) such that each one's BALANCE stays.", () -> {
            due(0, x.most());
            valley(12);
            due(0, x.most());
            owe(0, 1, 9);
            owe(1, 2, 9);
            due(0, x.most());
            owe(2, 0, 4);
            due(12, x.most());
            // the ring that the shortest one would spoil: 0-1-2-3-0, not 0-1-0
            valley(4);
            owe(0, 1, 1);
            owe(1, 0, 1);
            owe(1, 2, 1);
            owe(2, 3, 1);
            owe(3, 0, 1);
            due(4, x.most());
            due(1, x.close());
            due(0, x.most());
            // all twelve in one ring, longer than any ring that is told
            valley(12);
            oweRound(20, 0, 1, 2, 3, 4, 5, 6, 7, 8, 9, 10, 11);
            due(240, x.most());
            due(0, x.close());
            owe(3, 2, 5);
            due(240, x.most());
            owe(2, 3, 5);
            due(250, x.most());
            // up to what is owed of each pair: two ways over one debt
            valley(4);
            owe(0, 1, 3);
            owe(1, 2, 2);
            owe(2, 0, 2);
            owe(1, 3, 2);
            owe(3, 2, 2);
            due(8, x.most());
            owe(2, 0, 1);
            due(11, x.most());
        });
        sentence("(of each pair up to what is owed, in whole hours)", () -> {
            for (int round = 0; round < 60; round++) {
                valley(5);
                int[][] owes = new int[5][5];
                for (int k = 0; k < 8; k++) {
                    int a = random(5);
                    int b = (a + 1 + random(4)) % 5;
                    int hours = 1 + random(3);
                    if (owes[a][b] > 0) continue;
                    owes[a][b] = hours;
                    owe(a, b, hours);
                }
                due(triedOut(owes, 0, new int[5]), x.most());
            }
        });
        sentence("prices that prove that no more can", () -> {
            for (int round = 0; round < 40; round++) {
                int folk = 3 + random(3);
                valley(folk);
                for (int k = 0; k < 4 * folk; k++) {
                    int a = random(folk);
                    owe(a, (a + 1 + random(folk - 1)) % folk, 1 + random(20));
                }
                int most = x.most();
                due(most, leastBound(new int[folk], 1));
            }
            // ten ways of several lengths at once, of which some go back on others
            valley(12);
            for (int a = 0; a < 12; a++)
                for (int k = 1; k < 12; k++) owe(a, (a + k) % 12, 1 + (a * 7 + k * k * 5) % 19);
            provedBySteps();
        });
        sentence("`int most()`: THE MOST.", () -> {
            valley(12);
            customOf("60");
            for (int i = 0; i < 149; i++) x.act(i % 2, 1 - i % 2, 1, 0, 0);
            due(2 * 60 * 74, x.most());
            due(75 * 60 + 74 * 60, x.all(0, -1, 0));
            valley(3);
            x.week(2);
            owe(0, 1, 5);
            owe(1, 0, 5);
            x.death(0, 2);
            due(0, x.most());
        });
    }

    private static void prices() {
        sentence("PRICES (a ROW of ints, one for each of FOLK, in -1000 .. 1000) tell a BOUND", () -> {
            valley(2);
            owe(0, 1, 3);
            for (int good : new int[] {-1000, -1, 0, 1, 1000}) {
                ints(0, good, good);
                due(3, x.bound(0));
                due(0, x.proves(0));
            }
            for (int bad : new int[] {-1001, 1001, LOW, HIGH}) {
                ints(0, bad, 0);
                allRefused(-13, () -> x.bound(0), () -> x.proves(0));
                ints(0, 0, bad);
                allRefused(-13, () -> x.bound(0), () -> x.proves(0));
            }
            ints(0, 1000, -1000);
            due(6003, x.bound(0));
            ints(0, -1000, 1000);
            due(0, x.bound(0));
            due(1, x.proves(0));
        });
        sentence("for each a who owes b: that times (1 and a's PRICE less b's PRICE), if that is above 0; all together.", () -> {
            valley(3);
            owe(0, 1, 5);
            owe(1, 2, 7);
            ints(0, 0, 0, 0);
            due(12, x.bound(0));
            ints(0, 1, 0, 0);
            due(17, x.bound(0));
            ints(0, 0, 1, 0);
            due(14, x.bound(0));
            ints(0, 0, 2, 0);
            due(21, x.bound(0));
            ints(0, 0, 1, 2);
            due(0, x.bound(0));
            ints(0, 0, 0, 1);
            due(5, x.bound(0));
            ints(0, 3, 0, 2);
            due(20, x.bound(0));
            // the greatest that there can be
            valley(12);
            customOf("60");
            for (int i = 0; i < 149; i++) x.act(11, 0, 1, 0, 0);
            ints(0, 1000, 0, 0, 0, 0, 0, 0, 0, 0, 0, 0, -1000);
            due(149 * 60 * 2001, x.bound(0));
            due(0, x.proves(0));
            ints(0, -1000, 0, 0, 0, 0, 0, 0, 0, 0, 0, 0, 1000);
            due(0, x.bound(0));
            due(1, x.proves(0));
        });
        sentence("They PROVE if the BOUND is THE MOST.", () -> {
            valley(3);
            owe(0, 1, 5);
            owe(1, 0, 3);
            ints(0, 0, 0, 0);
            due(8, x.bound(0));
            due(0, x.proves(0));
            ints(0, 0, 1, 0);
            due(6, x.bound(0));
            due(6, x.most());
            due(1, x.proves(0));
            ints(0, 0, 2, 0);
            due(9, x.bound(0));
            due(0, x.proves(0));
            ints(0, -1000, -999, 1000);
            due(1, x.proves(0));
        });
        sentence("The BOUND by PRICES in SHELF d. -1, -11, -12 (no ROW of ints); -13: not one for each, or one beyond.", () -> {
            valley(2);
            x.keep(1, 1, 0);
            bytes(2, 0, 0);
            shorts(3, 0, 0);
            ints(4, 0);
            ints(5, 0, 0, 0);
            ints(6);
            ints(7, 0, 1001);
            allRefused(-1, () -> x.bound(-1), () -> x.bound(8), () -> x.bound(LOW), () -> x.bound(HIGH));
            refused(-11, () -> x.bound(0));
            allRefused(-12, () -> x.bound(1), () -> x.bound(2), () -> x.bound(3));
            allRefused(-13, () -> x.bound(4), () -> x.bound(5), () -> x.bound(6), () -> x.bound(7));
            bytes(2, 0);
            refused(-12, () -> x.bound(2));
            // one more of the folk: the row must be longer
            x.folk(0, 0, 0);
            due(0, x.bound(5));
        });
        sentence("Whether PRICES in SHELF d PROVE: 1, 0. Refused as bound().", () -> {
            valley(2);
            x.keep(1, 1, 0);
            bytes(2, 0, 0);
            shorts(3, 0, 0);
            ints(4, 0);
            ints(5, 0, 0, 0);
            ints(6, -1001, 0);
            allRefused(-1, () -> x.proves(-1), () -> x.proves(8), () -> x.proves(LOW), () -> x.proves(HIGH));
            refused(-11, () -> x.proves(0));
            allRefused(-12, () -> x.proves(1), () -> x.proves(2), () -> x.proves(3));
            allRefused(-13, () -> x.proves(4), () -> x.proves(5), () -> x.proves(6));
            ints(7, 0, 0);
            due(1, x.proves(7));
            owe(0, 1, 1);
            due(0, x.proves(7));
            valley(0);
            ints(0);
            due(1, x.proves(0));
        });
    }

    public static void main(String[] args) throws IOException {
        theRing();
        closing();
        theMost();
        prices();
        end("RingsEdgesTest", args);
    }
}
