import java.util.ArrayList;
import java.util.Arrays;
import java.util.Comparator;
import java.util.List;

/**
 * The valley told a second time, slowly and by other ways (lists, sorting, trying out all), so that both can be
 * compared. It has the face of HourValley.
 */
final class PlainValley {
    static final int[] HOURS = {10, 5, 12, 7, 5};
    static final int[] WORTH = {10, 7, 15, 10, 12};

    static final class One { int kind, place, skills, died = -4; }

    static final class Entry {
        int number, what, week, a = -4, b = -4, n = -4, how;
        String text;
        int[] ring;
    }

    static final class Need { int who, skill, hours, week; boolean met; }

    static final class Held { int who; boolean dead; }

    static final class Row { int sort; int[] v; }

    final List<One> folk = new ArrayList<>();
    final List<Entry> book = new ArrayList<>();
    final List<Need> needs = new ArrayList<>();
    final Object[] shelves = new Object[8];
    final int[][] roads = new int[6][6];
    int now;

    private static boolean in(int x, int lo, int hi) { return x >= lo && x <= hi; }
    private boolean one(int k) { return in(k, 0, folk.size() - 1); }
    private boolean dead(int k) { return folk.get(k).died != -4; }
    private boolean full() { return book.size() == 150; }

    int folk(int kind, int place, int skills) {
        if (!in(kind, 0, 4) || !in(place, 0, 5) || !in(skills, 0, 31)) return -1;
        if (folk.size() == 12) return -2;
        One x = new One(); x.kind = kind; x.place = place; x.skills = skills;
        folk.add(x);
        return folk.size() - 1;
    }

    int about(int who, int what) {
        if (!one(who) || !in(what, 0, 5)) return -1;
        One x = folk.get(who);
        return new int[] {x.kind, x.place, x.skills, HOURS[x.kind], WORTH[x.kind], x.died}[what];
    }

    int road(int a, int b, int seasons) {
        if (!in(a, 0, 5) || !in(b, 0, 5) || a == b || !in(seasons, 0, 15)) return -1;
        int lo = Math.min(a, b), hi = Math.max(a, b), was = roads[lo][hi];
        roads[lo][hi] = seasons;
        return was;
    }

    /** Floyd and Warshall, in place of going on from place to place. */
    private boolean leads(int a, int b, int week) {
        boolean[][] way = new boolean[6][6];
        for (int i = 0; i < 6; i++) for (int j = 0; j < 6; j++)
            way[i][j] = i == j || (roads[Math.min(i, j)][Math.max(i, j)] & 1 << week / 13 % 4) != 0;
        for (int k = 0; k < 6; k++) for (int i = 0; i < 6; i++) for (int j = 0; j < 6; j++)
            way[i][j] |= way[i][k] && way[k][j];
        return way[a][b];
    }

    int reached(int a, int b, int week) {
        if (!in(a, 0, 5) || !in(b, 0, 5) || !in(week, 0, 520)) return -1;
        return leads(a, b, week) ? 1 : 0;
    }

    int week(int week) {
        if (!in(week, now, 520)) return -1;
        int was = now; now = week; return was;
    }

    private int rowRefusal(int d, int sort) {
        if (!in(d, 0, 7)) return -1;
        if (shelves[d] == null) return -11;
        if (!(shelves[d] instanceof Row r) || (sort >= 0 && r.sort != sort)) return -12;
        return 0;
    }

    private Row row(int d) { return (Row) shelves[d]; }

    /** Goes over the text with a stack of what is still to be closed. */
    static int faultOf(String text) {
        StringBuilder open = new StringBuilder();
        boolean wantsAtom = true;
        int digits = 0;
        boolean zero = false;
        for (int i = 0; i < text.length(); i++) {
            char c = text.charAt(i);
            boolean digit = c >= '0' && c <= '9';
            if (wantsAtom) {
                if (c == '(' || c == '[') {
                    if (open.length() == 8) return i;
                    open.append(c == '(' ? ')' : '<');
                } else if (digit || "hngtswy".indexOf(c) >= 0) {
                    wantsAtom = false;
                    digits = digit ? 1 : 0;
                    zero = c == '0';
                } else return i;
                continue;
            }
            if (digit) {
                if (digits == 0 || digits == 3 || zero) return i;
                digits++;
                continue;
            }
            digits = 0;
            if ("+-*/".indexOf(c) >= 0) { wantsAtom = true; continue; }
            int top = open.length() - 1;
            if (top < 0 || open.charAt(top) != c) return i;
            int k = "<?:".indexOf(c);
            if (k >= 0) { open.setCharAt(top, "?:]".charAt(k)); wantsAtom = true; } else open.setLength(top);
        }
        return wantsAtom || open.length() > 0 ? text.length() : -4;
    }

    /** Splits the text at its last sign outside of brackets. */
    static int value(String t, java.util.Map<Character, Integer> f) {
        for (String signs : new String[] {"+-", "*/"}) {
            int deep = 0;
            for (int i = t.length() - 1; i > 0; i--) {
                char c = t.charAt(i);
                if (c == ')' || c == ']') deep++;
                if (c == '(' || c == '[') deep--;
                if (deep == 0 && signs.indexOf(c) >= 0) {
                    int l = value(t.substring(0, i), f), r = value(t.substring(i + 1), f);
                    switch (c) {
                        case '+': return l + r;
                        case '-': return l - r;
                        case '*': return (int) ((long) l * r);
                        default: return r == 0 ? 0 : (int) ((long) l / r);
                    }
                }
            }
        }
        char c = t.charAt(0);
        String in = t.substring(1, Math.max(1, t.length() - 1));
        if (c == '(') return value(in, f);
        if (c == '[') {
            List<String> parts = new ArrayList<>();
            int deep = 0, from = 0;
            for (int i = 0; i < in.length(); i++) {
                char d = in.charAt(i);
                if (d == '(' || d == '[') deep++;
                if (d == ')' || d == ']') deep--;
                if (deep == 0 && "<?:".indexOf(d) >= 0) { parts.add(in.substring(from, i)); from = i + 1; }
            }
            parts.add(in.substring(from));
            return value(parts.get(0), f) < value(parts.get(1), f) ? value(parts.get(2), f) : value(parts.get(3), f);
        }
        return f.containsKey(c) ? f.get(c) : Integer.parseInt(t);
    }

    private String textOf(Row r) {
        StringBuilder s = new StringBuilder();
        for (int v : r.v) s.append((char) (v & 255));
        return s.toString();
    }

    int fault(int d) {
        int no = rowRefusal(d, 0);
        return no != 0 ? no : faultOf(textOf(row(d)));
    }

    private int tell(int what, int week, int a, int b, int n) {
        Entry x = new Entry();
        x.number = book.size(); x.what = what; x.week = week; x.a = a; x.b = b; x.n = n;
        book.add(x);
        return x.number;
    }

    int custom(int d) {
        if (!in(d, 0, 7)) return -1;
        if (full()) return -2;
        int no = rowRefusal(d, 0);
        if (no != 0) return no;
        String t = textOf(row(d));
        int f = faultOf(t);
        if (f != -4) return -100 - f;
        tell(0, now, -4, -4, -4);
        book.get(book.size() - 1).text = t;
        return book.size() - 1;
    }

    int act(int gave, int took, int hours, int week, int how) {
        if (!one(gave) || !one(took) || gave == took || !in(hours, 1, 20) || !in(week, 0, now) || !in(how, 0, 3)) return -1;
        if (full()) return -2;
        for (int k : new int[] {gave, took}) if (dead(k) && week > folk.get(k).died) return -3;
        int e = tell(1, week, gave, took, hours);
        book.get(e).how = how;
        return e;
    }

    private boolean isAct(int e) { return in(e, 0, book.size() - 1) && book.get(e).what == 1; }

    int judge(int act, boolean counts) {
        if (!isAct(act)) return -1;
        if (full()) return -2;
        if (book.get(act).how % 2 == 0) return -3;
        return tell(2, now, act, counts ? 1 : 0, -4);
    }

    int gift(int act) {
        if (!isAct(act)) return -1;
        if (full()) return -2;
        for (Entry x : book) if (x.what == 3 && x.a == act) return -3;
        return tell(3, now, act, -4, -4);
    }

    int forgive(int a, int b, int n) {
        if (!one(a) || !one(b) || !in(n, 1, 1000)) return -1;
        if (full()) return -2;
        if (dead(a) || dead(b)) return -3;
        return tell(4, now, a, b, n);
    }

    int ring(int d, int n) {
        if (!in(d, 0, 7) || !in(n, 1, 1000)) return -1;
        if (full()) return -2;
        int no = rowRefusal(d, 0);
        if (no != 0) return no;
        int[] v = row(d).v;
        if (!in(v.length, 2, 6)) return -1;
        for (int i = 0; i < v.length; i++) {
            if (!one(v[i])) return -1;
            for (int j = 0; j < i; j++) if (v[i] == v[j]) return -1;
        }
        for (int k : v) if (dead(k)) return -3;
        return tellRing(v.clone(), n);
    }

    private int tellRing(int[] v, int n) {
        int e = tell(5, now, v[0], v[1], n);
        book.get(e).ring = v;
        return e;
    }

    int death(int who, int heir) {
        if (!one(who) || !one(heir) || who == heir) return -1;
        if (full()) return -2;
        if (dead(who) || dead(heir)) return -3;
        folk.get(who).died = now;
        return tell(6, now, who, heir, -4);
    }

    int entry(int entry, int what) {
        if (!in(entry, 0, book.size() - 1) || !in(what, 0, 4)) return -1;
        Entry x = book.get(entry);
        return new int[] {x.what, x.week, x.a, x.b, x.n}[what];
    }

    private List<Entry> by(int e) { return e == -1 ? book : book.subList(0, e); }

    private int countOf(Entry act, List<Entry> known, int view) {
        Boolean judged = null;
        String custom = null;
        for (Entry x : known) {
            if (x.what == 3 && x.a == act.number) return 0;
            if (x.what == 2 && x.a == act.number) judged = x.b == 1;
            if (x.what == 0 && x.week <= act.week) custom = x.text;
        }
        if (act.how % 2 == 1) {
            boolean so = judged != null ? judged : view == 1 || (view >= 2 && view - 2 == act.a);
            if (!so) return 0;
        }
        if (custom == null) return act.n;
        One g = folk.get(act.a), t = folk.get(act.b);
        int v = value(custom, java.util.Map.of('h', act.n, 'n', act.how / 2, 'g', WORTH[g.kind], 't', WORTH[t.kind],
                's', act.week / 13 % 4, 'w', g.place == t.place ? 0 : 1, 'y', act.week / 52));
        return v < 0 ? 0 : v > 60 ? 60 : v;
    }

    private boolean bad(int week, int e, int view) {
        return !in(week, 0, 520) || !in(e, -1, book.size()) || !in(view, 0, 1 + folk.size());
    }

    int counts(int act, int e, int view) {
        if (bad(0, e, view) || !isAct(act) || (e >= 0 && act >= e)) return -1;
        return countOf(book.get(act), by(e), view);
    }

    int[][] worked(int week, int e, int view) {
        int n = folk.size();
        int[][] o = new int[n][n];
        List<Entry> known = by(e), sorted = new ArrayList<>(known);
        sorted.sort(Comparator.comparingInt(x -> x.week));
        for (Entry x : sorted) {
            if (x.week > week) continue;
            if (x.what == 1) o[x.b][x.a] += countOf(x, known, view);
            if (x.what == 4) o[x.a][x.b] = Math.max(0, o[x.a][x.b] - x.n);
            if (x.what == 5) {
                int m = x.n, k = x.ring.length;
                for (int i = 0; i < k; i++) m = Math.min(m, o[x.ring[i]][x.ring[(i + 1) % k]]);
                for (int i = 0; i < k; i++) o[x.ring[i]][x.ring[(i + 1) % k]] -= m;
            }
            if (x.what == 6) for (int y = 0; y < n; y++) {
                int due = o[y][x.a];
                o[y][x.a] = 0;
                if (y != x.b && y != x.a) o[y][x.b] += due;
                o[x.a][y] = 0;
            }
        }
        return o;
    }

    int owed(int a, int b, int week, int e, int view) {
        return !one(a) || !one(b) || bad(week, e, view) ? -1 : worked(week, e, view)[a][b];
    }

    long balance(int who, int week, int e, int view) {
        if (!one(who) || bad(week, e, view)) throw new IllegalArgumentException();
        int[][] o = worked(week, e, view);
        long s = 0;
        for (int k = 0; k < o.length; k++) s += o[k][who] - o[who][k];
        return s;
    }

    int all(int week, int e, int view) {
        return bad(week, e, view) ? -1 : Arrays.stream(worked(week, e, view)).flatMapToInt(Arrays::stream).sum();
    }

    private static int leastOf(int[][] o, int[] ring) {
        int m = Integer.MAX_VALUE;
        for (int i = 0; i < ring.length; i++) m = Math.min(m, o[ring[i]][ring[(i + 1) % ring.length]]);
        return m;
    }

    /** Tries all rows of folk that begin with their least, in their order. */
    private static int[] theRing(int[][] o) {
        for (int n = 2; n <= 6; n++) for (int s = 0; s < o.length; s++) {
            int[] r = new int[n];
            r[0] = s;
            if (grow(o, r, 1)) return r;
        }
        return null;
    }

    private static boolean grow(int[][] o, int[] r, int k) {
        if (k == r.length) return o[r[k - 1]][r[0]] > 0;
        for (int x = r[0] + 1; x < o.length; x++) {
            boolean twice = false;
            for (int i = 0; i < k; i++) twice |= r[i] == x;
            if (twice || o[r[k - 1]][x] == 0) continue;
            r[k] = x;
            if (grow(o, r, k + 1)) return true;
        }
        return false;
    }

    int shortest(int i) {
        if (i < -1) return -1;
        int[][] o = worked(now, -1, 0);
        int[] r = theRing(o);
        if (r == null || i >= r.length) return -4;
        return i < 0 ? leastOf(o, r) : r[i];
    }

    int close() {
        int n = 0;
        while (!full()) {
            int[][] o = worked(now, -1, 0);
            int[] r = theRing(o);
            if (r == null) break;
            tellRing(r, leastOf(o, r));
            n++;
        }
        return n;
    }

    int[] lastPrices;

    /** Takes off round a cycle that gains, till there is none; then the ways' lengths are prices that prove it. */
    int most() {
        int n = folk.size();
        int[][] o = worked(now, -1, 0), x = new int[n][n];
        while (true) {
            int[] d = new int[n], from = new int[n];
            int hit = -1;
            for (int round = 0; round <= n; round++) {
                hit = -1;
                for (int a = 0; a < n; a++) for (int b = 0; b < n; b++) {
                    int cost = x[b][a] > 0 ? 1 : 2;
                    if (x[a][b] < o[a][b]) cost = -1;
                    if (cost < 2 && d[a] + cost < d[b]) { d[b] = d[a] + cost; from[b] = a; hit = b; }
                }
                if (hit < 0) break;
            }
            if (hit < 0) { lastPrices = d; break; }
            for (int i = 0; i < n; i++) hit = from[hit];
            int m = Integer.MAX_VALUE;
            int v = hit;
            do { int a = from[v]; m = Math.min(m, x[a][v] < o[a][v] ? o[a][v] - x[a][v] : x[v][a]); v = a; } while (v != hit);
            do { int a = from[v]; if (x[a][v] < o[a][v]) x[a][v] += m; else x[v][a] -= m; v = a; } while (v != hit);
        }
        return Arrays.stream(x).flatMapToInt(Arrays::stream).sum();
    }

    int bound(int d) {
        int no = rowRefusal(d, 2);
        if (no != 0) return no;
        int[] p = row(d).v;
        if (p.length != folk.size()) return -13;
        for (int v : p) if (!in(v, -1000, 1000)) return -13;
        int[][] o = worked(now, -1, 0);
        int s = 0;
        for (int a = 0; a < p.length; a++) for (int b = 0; b < p.length; b++)
            if (1 + p[a] - p[b] > 0) s += o[a][b] * (1 + p[a] - p[b]);
        return s;
    }

    int proves(int d) {
        int b = bound(d);
        return b < 0 ? b : b == most() ? 1 : 0;
    }

    int need(int who, int skill, int hours, int week) {
        if (!one(who) || !in(skill, 0, 4) || !in(hours, 1, 12) || !in(week, now, 520)) return -1;
        if (needs.size() == 30) return -2;
        if (dead(who)) return -3;
        Need x = new Need(); x.who = who; x.skill = skill; x.hours = hours; x.week = week;
        needs.add(x);
        return needs.size() - 1;
    }

    int free(int who, int week) {
        if (!one(who) || !in(week, 0, 520)) return -1;
        int h = HOURS[folk.get(who).kind];
        for (Entry x : book) if (x.what == 1 && x.a == who && x.week == week) h -= x.n;
        return Math.max(h, 0);
    }

    private List<Integer> able(Need x) {
        List<Integer> l = new ArrayList<>();
        for (int k = 0; k < folk.size(); k++) {
            One f = folk.get(k);
            if (k != x.who && !dead(k) && !dead(x.who) && (f.skills & 1 << x.skill) != 0
                    && leads(folk.get(x.who).place, f.place, x.week) && free(k, x.week) >= x.hours) l.add(k);
        }
        return l;
    }

    private int needRefusal(int need) {
        return !in(need, 0, needs.size() - 1) ? -1 : needs.get(need).met ? -3 : 0;
    }

    int could(int need) {
        int no = needRefusal(need), bits = 0;
        if (no != 0) return no;
        for (int k : able(needs.get(need))) bits |= 1 << k;
        return bits;
    }

    int best(int need) {
        int no = needRefusal(need);
        if (no != 0) return no;
        int[][] o = worked(now, -1, 0);
        int w = needs.get(need).who;
        return able(needs.get(need)).stream().max(Comparator.<Integer>comparingInt(k -> o[k][w]).thenComparingInt(k -> -k)).orElse(-4);
    }

    int meet(int need, int who) {
        if (!in(need, 0, needs.size() - 1) || !one(who)) return -1;
        if (full()) return -2;
        Need x = needs.get(need);
        if (x.met || x.week != now || !able(x).contains(who)) return -3;
        x.met = true;
        return tell(1, now, who, x.who, x.hours);
    }

    private List<Integer> barnNeeds(int week) {
        List<Integer> l = new ArrayList<>();
        for (int i = 0; i < needs.size() && l.size() < 5; i++) if (needs.get(i).week == week && !needs.get(i).met) l.add(i);
        return l;
    }

    private int[] bestPlan;
    private int bestMet;

    /** Lays all plans whole, and only then looks whether they hold. */
    private void plan(int week) {
        List<Integer> l = barnNeeds(week);
        bestPlan = null;
        bestMet = -1;
        List<List<Integer>> able = new ArrayList<>();
        for (int i : l) able.add(able(needs.get(i)));
        lay(week, l, able, new int[l.size()], 0);
    }

    private void lay(int week, List<Integer> l, List<List<Integer>> able, int[] p, int k) {
        if (k < p.length) {
            for (int w : able.get(k)) { p[k] = w; lay(week, l, able, p, k + 1); }
            p[k] = 99;
            lay(week, l, able, p, k + 1);
            return;
        }
        int met = 0;
        for (int i = 0; i < k; i++) {
            if (p[i] == 99) continue;
            met++;
            int sum = 0;
            for (int j = 0; j < k; j++) if (p[j] == p[i]) {
                sum += needs.get(l.get(j)).hours;
                if (folk.get(needs.get(l.get(j)).who).place != folk.get(needs.get(l.get(i)).who).place) return;
            }
            if (sum > free(p[i], week)) return;
        }
        if (met > bestMet || (met == bestMet && Arrays.compare(p, bestPlan) < 0)) { bestMet = met; bestPlan = p.clone(); }
    }

    int barn(int week) {
        if (!in(week, 0, 520)) return -1;
        plan(week);
        return bestMet;
    }

    int helper(int need) {
        int no = needRefusal(need);
        if (no != 0) return no;
        int week = needs.get(need).week, at = barnNeeds(week).indexOf(need);
        plan(week);
        return at < 0 || bestPlan[at] == 99 ? -4 : bestPlan[at];
    }

    int count(int what) {
        switch (what) {
            case 0: return folk.size();
            case 1: return book.size();
            case 2: return now;
            case 3: return needs.size();
            case 4: return (int) needs.stream().filter(x -> !x.met).count();
            case 5: return (int) folk.stream().filter(x -> x.died != -4).count();
            case 6: return (int) book.stream().filter(x -> x.what == 1 && x.how % 2 == 1
                        && book.stream().noneMatch(y -> y.what == 2 && y.a == x.number)).count();
            default: return -1;
        }
    }

    int keep(int d, int what, int k) {
        if (!in(d, 0, 7) || !in(what, 0, 1) || (what == 1 && !one(k))) return -1;
        Held h = new Held();
        h.who = k;
        h.dead = what == 1 && dead(k);
        shelves[d] = what == 0 ? null : h;
        return 0;
    }

    int row(int d, int sort, int n) {
        if (!in(d, 0, 7) || !in(sort, 0, 2) || n > 80) return -1;
        if (n < 0) return -14;
        Row r = new Row(); r.sort = sort; r.v = new int[n];
        shelves[d] = r;
        return 0;
    }

    int put(int d, int i, int v) {
        int no = rowRefusal(d, -1);
        if (no != 0) return no;
        if (!in(i, 0, row(d).v.length - 1)) return -13;
        int gone = new int[] {24, 16, 0}[row(d).sort];
        row(d).v[i] = v << gone >> gone;
        return 0;
    }

    long element(int d, int i) {
        if (!in(d, 0, 7)) throw new IllegalArgumentException();
        if (rowRefusal(d, -1) != 0 || !in(i, 0, row(d).v.length - 1)) throw new IllegalStateException();
        return row(d).v[i];
    }

    int copy(int d, int i, int e, int j, int n) {
        if (!in(d, 0, 7) || !in(e, 0, 7)) return -1;
        if (shelves[d] == null || shelves[e] == null) return -11;
        if (rowRefusal(d, -1) != 0 || rowRefusal(e, row(d).sort) != 0) return -12;
        int[] from = row(d).v.clone(), to = row(e).v;
        if (n < 0 || i < 0 || j < 0 || (long) i + n > from.length || (long) j + n > to.length) return -13;
        for (int k = 0; k < n; k++) to[j + k] = from[i + k];
        return n;
    }

    private int oneRefusal(int d) {
        return !in(d, 0, 7) ? -1 : shelves[d] == null ? -11 : shelves[d] instanceof Row ? -12 : 0;
    }

    int weight(int d) {
        int no = oneRefusal(d);
        if (no != 0) return no;
        One f = folk.get(((Held) shelves[d]).who);
        int w = 100 + HOURS[f.kind] + WORTH[f.kind];
        return new int[] {w, w + 5, w + f.skills, w + 10 * f.place, 2 * (w + 10 * f.place)}[f.kind];
    }

    int toss(int d) {
        int no = oneRefusal(d);
        if (no != 0) return no;
        Held h = (Held) shelves[d];
        int kind = folk.get(h.who).kind;
        return h.dead || kind == 1 ? -15 : kind == 4 ? 100 + h.who : h.who;
    }
}
