import java.util.ArrayList;
import java.util.List;
import java.util.function.LongSupplier;

/** Long runs of mixed calls, each answered by HourValley and by PlainValley alike. */
public final class SameAsPlainTest {
    private static final int CALLS = 512;
    private static final String STRAY = "([)]<?:+-*/0129hngtswy x" + (char) 255 + (char) 0;
    private static long seed;
    private static int wrong;
    private static HourValley x;
    private static PlainValley y;
    private static final List<String> told = new ArrayList<>();

    private static int random(int n) {
        seed = seed * 6364136223846793005L + 1442695040888963407L;
        return (int) ((seed >>> 33) % n);
    }

    /** Mostly one from lo to hi, at times one beside them or far off. */
    private static int any(int lo, int hi) {
        int k = random(60);
        if (k == 0) return lo - 1;
        if (k == 1) return hi + 1;
        if (k == 2) return new int[] {Integer.MIN_VALUE, Integer.MAX_VALUE, -2, 1000, -1000000, 521}[random(6)];
        return lo + random(Math.max(1, hi - lo + 1));
    }

    private static long answer(LongSupplier call) {
        try {
            return call.getAsLong();
        } catch (IllegalArgumentException e) {
            return Long.MIN_VALUE;
        } catch (IllegalStateException e) {
            return Long.MIN_VALUE + 1;
        }
    }

    private static void same(String call, LongSupplier a, LongSupplier b) {
        long got = answer(a), want = answer(b);
        told.add(call + " = " + want);
        if (got != want && wrong++ < 5) {
            told.forEach(System.out::println);
            System.out.println("HourValley answered " + got);
        }
    }

    private static String text(int deep, int room) {
        StringBuilder s = new StringBuilder(product(deep, room));
        while (random(3) == 0 && s.length() < room) s.append(random(2) == 0 ? '+' : '-').append(product(deep, room / 2));
        return s.toString();
    }

    private static String product(int deep, int room) {
        StringBuilder s = new StringBuilder(atom(deep, room));
        while (random(4) == 0 && s.length() < room) s.append(random(2) == 0 ? '*' : '/').append(atom(deep, room / 2));
        return s.toString();
    }

    private static String atom(int deep, int room) {
        int k = random(10);
        if (k < 3 && deep < 9 && room > 5) return "(" + text(deep + 1, room - 2) + ")";
        if (k < 5 && deep < 9 && room > 9) {
            int part = (room - 5) / 3;
            return "[" + text(deep + 1, part) + "<" + text(deep + 1, part) + "?" + text(deep + 1, part) + ":" + text(deep + 1, part) + "]";
        }
        if (k < 7) return String.valueOf(random(3) == 0 ? random(1000) : random(12));
        return "" + "hngtswyhhg".charAt(random(10));
    }

    private static String spoiled(String t) {
        int k = random(12);
        int i = random(t.length() + 1);
        if (k == 0) return t.substring(0, i);
        if (k == 1) return t.substring(0, i) + STRAY.charAt(random(STRAY.length())) + t.substring(i);
        if (k == 2) return t.substring(0, i) + t.substring(Math.min(t.length(), i + 1));
        if (k == 3) return "((((((((".substring(random(3)) + t;
        return t;
    }

    private static void lay(int d, String t) {
        String s = t.length() > 80 ? t.substring(0, 80) : t;
        same("row(" + d + ", 0, " + s.length() + ")", () -> x.row(d, 0, s.length()), () -> y.row(d, 0, s.length()));
        for (int i = 0; i < s.length(); i++) {
            x.put(d, i, s.charAt(i));
            y.put(d, i, s.charAt(i));
        }
        told.add("lay " + s);
    }

    private static int folkNow() { return y.folk.size(); }
    private static int who() { return any(0, folkNow() - 1); }
    private static int anEntry() { return any(0, y.book.size() - 1); }
    private static int anE() { return random(2) == 0 ? -1 : any(-1, y.book.size()); }
    private static int aView() { return any(0, folkNow() + 1); }
    private static int pastWeek() { return random(2) == 0 ? y.now : any(0, y.now); }

    private static void valleyCall() {
        int a = any(0, 5), b = any(0, 5), c = any(0, 31), k = any(0, 4), w = any(0, 520), one = who();
        switch (random(5)) {
            case 0: same("folk " + k + " " + a + " " + c, () -> x.folk(k, a, c), () -> y.folk(k, a, c)); break;
            case 1: same("about " + one + " " + b, () -> x.about(one, b), () -> y.about(one, b)); break;
            case 2: { int s = any(0, 15); same("road " + a + " " + b + " " + s, () -> x.road(a, b, s), () -> y.road(a, b, s)); break; }
            case 3: same("reached " + a + " " + b + " " + w, () -> x.reached(a, b, w), () -> y.reached(a, b, w)); break;
            default: { int n = y.now + (random(3) == 0 ? random(30) : random(2)) - (random(9) == 0 ? 1 : 0);
                same("week " + n, () -> x.week(n), () -> y.week(n)); }
        }
    }

    private static void bookCall(int deaths) {
        int a = who(), b = who(), h = any(1, 20), w = pastWeek(), d = any(0, 7), e = anEntry();
        int k = random(20);
        if (k < 9) { int how = any(0, 3); same("act " + a + " " + b + " " + h + " " + w + " " + how, () -> x.act(a, b, h, w, how), () -> y.act(a, b, h, w, how)); }
        else if (k < 12) { boolean c = random(2) == 0; same("judge " + e + " " + c, () -> x.judge(e, c), () -> y.judge(e, c)); }
        else if (k < 13) same("gift " + e, () -> x.gift(e), () -> y.gift(e));
        else if (k < 15) { int n = random(2) == 0 ? any(1, 1000) : any(1, 9); same("forgive " + a + " " + b + " " + n, () -> x.forgive(a, b, n), () -> y.forgive(a, b, n)); }
        else if (k < 16) {
            lay(d & 7, spoiled(text(0, 4 + random(70))));
            same("fault " + d, () -> x.fault(d), () -> y.fault(d));
            same("custom " + d, () -> x.custom(d), () -> y.custom(d));
        } else if (k < 18) {
            StringBuilder s = new StringBuilder();
            int n = any(2, 6);
            for (int i = 0; i < n && i < 9; i++) s.append((char) (who() & 255));
            lay(d & 7, s.toString());
            int off = random(2) == 0 ? any(1, 1000) : any(1, 9);
            same("ring " + d + " " + off, () -> x.ring(d, off), () -> y.ring(d, off));
        } else if (random(30) < deaths) same("death " + a + " " + b, () -> x.death(a, b), () -> y.death(a, b));
    }

    private static void askBook() {
        int a = who(), b = who(), w = pastWeek(), e = anE(), v = aView(), n = anEntry(), k = any(0, 4);
        String tail = " " + w + " " + e + " " + v;
        switch (random(6)) {
            case 0: same("entry " + n + " " + k, () -> x.entry(n, k), () -> y.entry(n, k)); break;
            case 1: same("counts " + n + " " + e + " " + v, () -> x.counts(n, e, v), () -> y.counts(n, e, v)); break;
            case 2: same("owed " + a + " " + b + tail, () -> x.owed(a, b, w, e, v), () -> y.owed(a, b, w, e, v)); break;
            case 3: same("balance " + a + tail, () -> x.balance(a, w, e, v), () -> y.balance(a, w, e, v)); break;
            case 4: same("all" + tail, () -> x.all(w, e, v), () -> y.all(w, e, v)); break;
            default: { int c = any(0, 6); same("count " + c, () -> x.count(c), () -> y.count(c)); }
        }
    }

    private static void layPrices(boolean proving) {
        int d = random(8), n = folkNow() + (random(9) == 0 ? 1 : 0);
        y.most();
        x.row(d, 2, n);
        y.row(d, 2, n);
        for (int i = 0; i < n; i++) {
            int p = proving && i < folkNow() ? y.lastPrices[i] + (random(40) == 0 ? 1 : 0) : any(-3, 3);
            x.put(d, i, p);
            y.put(d, i, p);
            told.add("price " + p);
        }
        same("bound " + d, () -> x.bound(d), () -> y.bound(d));
        same("proves " + d, () -> x.proves(d), () -> y.proves(d));
    }

    private static void ringCall() {
        int k = random(9), i = any(-1, 6);
        if (k < 4) same("shortest " + i, () -> x.shortest(i), () -> y.shortest(i));
        else if (k < 6) same("most", () -> x.most(), () -> y.most());
        else if (k < 8) layPrices(random(3) > 0);
        else if (random(4) == 0) same("close", () -> x.close(), () -> y.close());
        int d = any(0, 7);
        if (random(9) == 0) same("bound " + d, () -> x.bound(d), () -> y.bound(d));
        if (random(9) == 0) same("proves " + d, () -> x.proves(d), () -> y.proves(d));
    }

    private static void needCall() {
        int a = who(), s = any(0, 4), h = random(2) == 0 ? any(1, 4) : any(1, 12), w = y.now + random(4) / 2, n = any(0, y.needs.size() - 1);
        int far = any(0, 520);
        switch (random(8)) {
            case 0: { int t = random(6) == 0 ? far : w; same("need " + a + " " + s + " " + h + " " + t, () -> x.need(a, s, h, t), () -> y.need(a, s, h, t)); break; }
            case 1: { int t = random(2) == 0 ? far : w; same("free " + a + " " + t, () -> x.free(a, t), () -> y.free(a, t)); break; }
            case 2: same("could " + n, () -> x.could(n), () -> y.could(n)); break;
            case 3: same("best " + n, () -> x.best(n), () -> y.best(n)); break;
            case 4: {
                int could = y.could(n), best = could > 0 && random(2) == 0 ? Integer.numberOfTrailingZeros(could) : a;
                if (random(2) == 0) same("meet " + n + " " + best, () -> x.meet(n, best), () -> y.meet(n, best));
                break;
            }
            case 5: { int t = random(5) == 0 ? far : w; same("barn " + t, () -> x.barn(t), () -> y.barn(t)); break; }
            default: same("helper " + n, () -> x.helper(n), () -> y.helper(n));
        }
    }

    private static void shelfCall() {
        int d = any(0, 7), e = any(0, 7), i = any(0, 9), j = any(0, 9), n = any(0, 6);
        switch (random(8)) {
            case 0: { int what = any(0, 1), k = who(); same("keep " + d + " " + what + " " + k, () -> x.keep(d, what, k), () -> y.keep(d, what, k)); break; }
            case 1: { int sort = any(0, 2), size = any(0, random(2) == 0 ? 80 : 9); same("row " + d + " " + sort + " " + size, () -> x.row(d, sort, size), () -> y.row(d, sort, size)); break; }
            case 2: { int v = random(2) == 0 ? any(0, 11) : random(1 << 30) * 5; same("put " + d + " " + i + " " + v, () -> x.put(d, i, v), () -> y.put(d, i, v)); break; }
            case 3: same("element " + d + " " + i, () -> x.element(d, i), () -> y.element(d, i)); break;
            case 4: same("copy " + d + " " + i + " " + e + " " + j + " " + n, () -> x.copy(d, i, e, j, n), () -> y.copy(d, i, e, j, n)); break;
            case 5: same("weight " + d, () -> x.weight(d), () -> y.weight(d)); break;
            case 6: same("toss " + d, () -> x.toss(d), () -> y.toss(d)); break;
            default: same("fault " + d, () -> x.fault(d), () -> y.fault(d)); same("custom " + d, () -> x.custom(d), () -> y.custom(d)); same("ring " + d, () -> x.ring(d, 3), () -> y.ring(d, 3));
        }
    }

    /** Folk, at times roads, and at times a book that is all but full. */
    private static void begin() {
        int size = random(13), places = 1 + random(6), open = random(3) * 5, acts = random(8) == 0 ? 125 + random(25) : 0;
        for (int i = 0; i < size; i++) {
            int kind = random(5), place = random(places), skills = random(3) == 0 ? random(32) : 31;
            same("folk " + kind + " " + place + " " + skills, () -> x.folk(kind, place, skills), () -> y.folk(kind, place, skills));
        }
        for (int i = 0; i < open; i++) {
            int a = random(6), b = random(6), s = random(16);
            same("road " + a + " " + b + " " + s, () -> x.road(a, b, s), () -> y.road(a, b, s));
        }
        for (int i = 0; i < acts; i++) {
            int a = who(), b = who(), h = 1 + random(20), how = random(4);
            same("act " + a + " " + b + " " + h + " 0 " + how, () -> x.act(a, b, h, 0, how), () -> y.act(a, b, h, 0, how));
        }
    }

    private static void run(int number) {
        seed = number;
        x = new HourValley();
        y = new PlainValley();
        told.clear();
        told.add("run " + number);
        int[] shares = {2 + random(4), 5 + random(30), 2 + random(15), 1 + random(10), random(3) * 8, random(12)};
        int deaths = random(3) == 0 ? random(30) : random(3), sum = 0;
        for (int s : shares) sum += s;
        begin();
        while (told.size() < CALLS && wrong == 0) {
            int k = random(sum);
            if ((k -= shares[0]) < 0) valleyCall();
            else if ((k -= shares[1]) < 0) bookCall(deaths);
            else if ((k -= shares[2]) < 0) askBook();
            else if ((k -= shares[3]) < 0) ringCall();
            else if ((k -= shares[4]) < 0) needCall();
            else shelfCall();
        }
    }

    public static void main(String[] args) {
        int runs = args.length > 0 ? Integer.parseInt(args[0]) : 600;
        for (int number = 1; number <= runs && wrong == 0; number++) run(number);
        System.out.println(wrong == 0 ? "SameAsPlainTest: " + runs + " runs alike" : "SameAsPlainTest: unlike");
        if (wrong != 0) System.exit(1);
    }
}
