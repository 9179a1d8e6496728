/** Each promise with answers worked out by hand from the document: ordinary ones, edges, wrong inputs. */
public final class PromiseTest {
    private static int wrong;
    private static int asked;
    private static int promise;
    private static HourValley x;

    private static void due(long want, long got) {
        asked++;
        if (want != got) {
            wrong++;
            StackTraceElement at = new Throwable().getStackTrace()[1];
            System.out.println("promise " + promise + ", line " + at.getLineNumber() + ": answered " + got + ", due is " + want);
        }
    }

    /** A new valley with so many grown folk in place 0 with all skills. */
    private static void valley(int grown) {
        x = new HourValley();
        for (int i = 0; i < grown; i++) x.folk(0, 0, 31);
    }

    private static void text(int d, String s) {
        x.row(d, 0, s.length());
        for (int i = 0; i < s.length(); i++) x.put(d, i, s.charAt(i));
    }

    private static void bytes(int d, int... v) { fill(d, 0, v); }
    private static void ints(int d, int... v) { fill(d, 2, v); }

    private static void fill(int d, int sort, int[] v) {
        x.row(d, sort, v.length);
        for (int i = 0; i < v.length; i++) x.put(d, i, v[i]);
    }

    private static int faultOf(String s) { text(0, s); return x.fault(0); }

    /** What an act of so many hours counts by a custom alone. */
    private static int value(String s, int hours) {
        valley(2);
        text(0, s);
        due(0, x.custom(0));
        return x.counts(x.act(0, 1, hours, 0, 0), -1, 0);
    }

    private static void fillBook() {
        while (x.act(0, 1, 1, 0, 1) >= 0) continue;
        due(150, x.count(1));
    }

    private static int thrownByBalance(int who, int week, int e, int view) {
        try { x.balance(who, week, e, view); return 0; } catch (IllegalArgumentException e1) { return 1; }
    }

    private static int thrownByElement(int d, int i) {
        try { x.element(d, i); return 0; } catch (IllegalArgumentException e) { return 1; } catch (IllegalStateException e) { return 2; }
    }

    private static void p1() {
        x = new HourValley();
        for (int k = 0; k < 7; k++) due(0, x.count(k));
        due(-1, x.about(0, 0)); due(0, x.most()); due(0, x.close()); due(-4, x.shortest(-1)); due(0, x.all(520, -1, 0));
        due(0, x.barn(0)); due(-11, x.weight(7)); due(0, x.reached(0, 1, 0));
    }

    private static void p2() {
        x = new HourValley();
        due(-1, x.folk(-1, 0, 0)); due(-1, x.folk(5, 0, 0)); due(-1, x.folk(0, -1, 0)); due(-1, x.folk(0, 6, 0));
        due(-1, x.folk(0, 0, -1)); due(-1, x.folk(0, 0, 32)); due(0, x.count(0));
        for (int i = 0; i < 12; i++) due(i, x.folk(4, 5, 31));
        due(-2, x.folk(0, 0, 0)); due(-1, x.folk(5, 0, 0)); due(12, x.count(0));
    }

    private static void p3() {
        x = new HourValley();
        int[] hours = {10, 5, 12, 7, 5}, worth = {10, 7, 15, 10, 12};
        for (int k = 0; k < 5; k++) {
            x.folk(k, k + 1, 3 * k);
            due(k, x.about(k, 0)); due(k + 1, x.about(k, 1)); due(3 * k, x.about(k, 2));
            due(hours[k], x.about(k, 3)); due(worth[k], x.about(k, 4)); due(-4, x.about(k, 5));
        }
        x.week(7); x.death(2, 0);
        due(7, x.about(2, 5)); due(-4, x.about(0, 5)); due(12, x.about(2, 3));
        due(-1, x.about(-1, 0)); due(-1, x.about(5, 0)); due(-1, x.about(0, 6)); due(-1, x.about(0, -1));
    }

    private static void p4() {
        x = new HourValley();
        due(0, x.road(0, 5, 9)); due(9, x.road(5, 0, 15)); due(15, x.road(0, 5, 0)); due(0, x.road(0, 5, 1));
        due(-1, x.road(2, 2, 1)); due(-1, x.road(0, 6, 1)); due(-1, x.road(-1, 0, 1)); due(-1, x.road(0, 5, 16)); due(-1, x.road(0, 5, -1));
        due(1, x.road(0, 5, 1));
    }

    private static void p5() {
        x = new HourValley();
        for (int p = 0; p < 5; p++) x.road(p, p + 1, 8);
        due(0, x.reached(0, 5, 0)); due(0, x.reached(0, 5, 38)); due(1, x.reached(0, 5, 39)); due(1, x.reached(5, 0, 51)); due(0, x.reached(5, 0, 52));
        due(1, x.reached(3, 3, 0)); due(1, x.reached(0, 0, 520));
        x.road(2, 3, 7);
        due(0, x.reached(0, 5, 39)); due(1, x.reached(0, 2, 39)); due(1, x.reached(2, 3, 0));
        due(-1, x.reached(6, 0, 0)); due(-1, x.reached(0, -1, 0)); due(-1, x.reached(0, 1, -1)); due(-1, x.reached(0, 1, 521)); due(0, x.reached(0, 1, 520));
    }

    private static void p6() {
        x = new HourValley();
        due(0, x.week(0)); due(0, x.week(5)); due(5, x.week(5)); due(-1, x.week(4)); due(5, x.count(2));
        due(-1, x.week(521)); due(5, x.week(520)); due(520, x.count(2)); due(-1, x.week(-1));
    }

    private static void p7() {
        valley(1);
        String[] whole = {"h", "0", "999", "h+n-g*t/s+w-y", "(h)", "[h<n?1:2]", "((((((((h))))))))", "[[[[[[[[1<1?1:1]<1?1:1]<1?1:1]<1?1:1]<1?1:1]<1?1:1]<1?1:1]<1?1:1]", "10", "(0)*[0<(1)?h:y]"};
        for (String s : whole) due(-4, faultOf(s));
        Object[][] bad = {{"", 0}, {"h+", 2}, {"01", 1}, {"00", 1}, {"1000", 3}, {"1+012", 3}, {"hh", 1}, {"h1", 1}, {"1h", 1}, {"x", 0}, {"+1", 0}, {"-1", 0},
            {"(h", 2}, {"(h]", 2}, {"h)", 1}, {"()", 1}, {"(((((((((h", 8}, {"[[[[[[[[[", 8}, {"((((([[[(", 8}, {"[h<n:1", 4}, {"[h<n?1:2", 8}, {"[h?", 2}, {"[h<n<", 4},
            {"[h<n?1?", 6}, {"[h<n?1:2)", 8}, {"[h<n?1:2]]", 9}, {"h h", 1}, {" h", 0}, {"h*/", 2}, {"h" + (char) 0, 1}, {"" + (char) 200, 0}, {"1<2", 1}, {"[1", 2}, {"((((((((h)))))))", 16}};
        for (Object[] b : bad) due((Integer) b[1], faultOf((String) b[0]));
        due(80, faultOf("1+".repeat(40)));
        due(-4, faultOf("1+".repeat(39) + "99"));
        due(-1, x.fault(-1)); due(-1, x.fault(8)); due(-11, x.fault(3));
        x.row(3, 1, 1); due(-12, x.fault(3)); x.row(3, 2, 1); due(-12, x.fault(3)); x.keep(3, 1, 0); due(-12, x.fault(3));
        due(0, x.count(1));
    }

    private static void p8() {
        due(5, value("h", 5)); due(0, value("0-h", 5)); due(60, value("h*h", 8)); due(60, value("h*3", 20)); due(60, value("60", 1)); due(60, value("61", 1));
        due(7, value("1+2*3", 1)); due(9, value("(1+2)*3", 1)); due(5, value("9-3-1", 1)); due(1, value("8/4/2", 1)); due(8, value("8/4*4", 1));
        due(3, value("7/2", 1)); due(0, value("7/0", 1)); due(7, value("10+(0-7)/2", 1)); due(2, value("[1<1?1:2]", 1)); due(1, value("[1<2?1:2]", 1));
        due(10, value("g", 1)); due(10, value("t", 1)); due(0, value("n+s+w+y", 1)); due(4, value("0-999*999*999*999/999/999/100", 1));
        valley(2);
        text(0, "h+1"); due(0, x.custom(0));
        text(0, "h+2"); due(-4, x.fault(0));
        due(1, x.act(0, 1, 1, 0, 0)); due(2, x.counts(1, -1, 0));
        due(2, x.custom(0)); due(3, x.counts(1, -1, 0)); due(2, x.counts(1, 2, 0));
        text(1, "h+"); due(-102, x.custom(1)); text(1, ""); due(-100, x.custom(1)); text(1, "1+".repeat(40)); due(-180, x.custom(1));
        due(-1, x.custom(8)); due(-1, x.custom(-1)); due(-11, x.custom(7)); x.row(7, 2, 1); due(-12, x.custom(7)); x.keep(7, 1, 1); due(-12, x.custom(7));
        fillBook();
        due(-2, x.custom(0)); due(-2, x.custom(1)); due(-2, x.custom(6)); due(-2, x.custom(7)); due(-1, x.custom(8));
    }

    private static void p9() {
        valley(3); x.week(4);
        due(0, x.act(0, 1, 1, 0, 0)); due(1, x.act(1, 0, 20, 4, 3)); due(2, x.act(2, 0, 2, 3, 2));
        due(-1, x.act(0, 0, 1, 0, 0)); due(-1, x.act(-1, 0, 1, 0, 0)); due(-1, x.act(0, 3, 1, 0, 0)); due(-1, x.act(0, 1, 0, 0, 0)); due(-1, x.act(0, 1, 21, 0, 0));
        due(-1, x.act(0, 1, 1, -1, 0)); due(-1, x.act(0, 1, 1, 5, 0)); due(-1, x.act(0, 1, 1, 0, 4)); due(-1, x.act(0, 1, 1, 0, -1));
        due(3, x.death(2, 0));
        due(4, x.act(2, 0, 1, 4, 0)); due(5, x.act(0, 2, 1, 4, 0)); due(6, x.act(0, 2, 1, 0, 0));
        x.week(5);
        due(-3, x.act(2, 0, 1, 5, 0)); due(-3, x.act(0, 2, 1, 5, 0)); due(7, x.act(0, 2, 1, 4, 0)); due(8, x.act(0, 1, 1, 5, 0));
        fillBook();
        due(-2, x.act(0, 2, 1, 5, 0)); due(-2, x.act(0, 1, 1, 5, 0)); due(-1, x.act(0, 0, 1, 0, 0)); due(150, x.count(1));
    }

    private static void p10() {
        valley(2);
        due(0, x.act(0, 1, 3, 0, 1)); due(1, x.act(0, 1, 5, 0, 0)); due(2, x.act(0, 1, 7, 0, 3)); due(2, x.count(6));
        due(3, x.judge(0, true)); due(3, x.counts(0, -1, 0)); due(1, x.count(6));
        due(4, x.judge(0, false)); due(0, x.counts(0, -1, 1)); due(3, x.counts(0, 4, 0)); due(0, x.counts(0, 3, 0)); due(3, x.counts(0, 3, 1));
        due(5, x.judge(0, true)); due(3, x.counts(0, -1, 0)); due(6, x.judge(2, false)); due(0, x.count(6));
        due(-3, x.judge(1, true)); due(-1, x.judge(3, true)); due(-1, x.judge(7, true)); due(-1, x.judge(-1, false));
        x.gift(0); due(8, x.judge(0, true)); due(0, x.counts(0, -1, 1));
        fillBook();
        due(-2, x.judge(0, true)); due(-2, x.judge(1, true)); due(-1, x.judge(3, true));
    }

    private static void p11() {
        valley(2);
        x.act(0, 1, 3, 0, 0); x.act(0, 1, 3, 0, 1); x.week(3);
        due(2, x.gift(0)); due(-3, x.gift(0)); due(0, x.counts(0, -1, 1)); due(3, x.counts(0, 2, 0)); due(0, x.owed(1, 0, 0, -1, 0)); due(3, x.owed(1, 0, 0, 2, 0));
        due(3, x.gift(1)); due(0, x.counts(1, -1, 1)); due(1, x.count(6)); due(-1, x.gift(2)); due(-1, x.gift(-1)); due(-1, x.gift(4));
        due(4, x.act(0, 1, 1, 0, 0));
        fillBook();
        due(-2, x.gift(4)); due(-2, x.gift(0)); due(-1, x.gift(2));
    }

    private static void p12() {
        valley(3);
        x.act(0, 1, 10, 0, 0);
        due(1, x.forgive(1, 0, 3)); due(7, x.owed(1, 0, 0, -1, 0)); due(2, x.forgive(1, 0, 1000)); due(0, x.owed(1, 0, 0, -1, 0));
        x.act(0, 1, 4, 0, 0); due(4, x.owed(1, 0, 0, -1, 0)); due(4, x.forgive(0, 1, 9)); due(4, x.owed(1, 0, 0, -1, 0)); due(0, x.owed(0, 1, 0, -1, 0));
        due(-1, x.forgive(1, 0, 0)); due(-1, x.forgive(1, 0, 1001)); due(-1, x.forgive(3, 0, 1)); due(-1, x.forgive(0, -1, 1));
        x.week(2); due(5, x.forgive(1, 0, 1)); due(4, x.owed(1, 0, 1, -1, 0)); due(3, x.owed(1, 0, 2, -1, 0));
        x.act(0, 1, 2, 1, 0); due(6, x.owed(1, 0, 1, -1, 0)); due(5, x.owed(1, 0, 2, -1, 0));
        x.death(2, 0); due(-3, x.forgive(2, 0, 1)); due(-3, x.forgive(0, 2, 1));
        fillBook();
        due(-2, x.forgive(2, 0, 1)); due(-1, x.forgive(1, 0, 0));
    }

    private static void p13() {
        valley(7);
        x.act(1, 0, 5, 0, 0); x.act(2, 1, 3, 0, 0); x.act(0, 2, 4, 0, 0);
        bytes(0, 0, 1, 2);
        due(3, x.ring(0, 2)); due(3, x.owed(0, 1, 0, -1, 0)); due(1, x.owed(1, 2, 0, -1, 0)); due(2, x.owed(2, 0, 0, -1, 0));
        due(4, x.ring(0, 1000)); due(2, x.owed(0, 1, 0, -1, 0)); due(0, x.owed(1, 2, 0, -1, 0)); due(1, x.owed(2, 0, 0, -1, 0));
        bytes(0, 2, 1, 0); due(0, x.entry(4, 2)); due(5, x.ring(0, 5)); due(2, x.owed(0, 1, 0, -1, 0));
        bytes(1, 0); due(-1, x.ring(1, 1)); bytes(1, 0, 1, 2, 3, 4, 5, 6); due(-1, x.ring(1, 1)); bytes(1, 0, 1, 2, 3, 4, 5); due(6, x.ring(1, 1));
        bytes(1, 0, 7); due(-1, x.ring(1, 1)); bytes(1, -1, 0); due(-1, x.ring(1, 1)); bytes(1, 0, 1, 0); due(-1, x.ring(1, 1)); bytes(1); due(-1, x.ring(1, 1));
        due(-1, x.ring(0, 0)); due(-1, x.ring(0, 1001)); due(-1, x.ring(8, 1)); due(-1, x.ring(-1, 1)); due(-11, x.ring(5, 1));
        x.row(5, 1, 2); due(-12, x.ring(5, 1)); x.keep(5, 1, 0); due(-12, x.ring(5, 1));
        x.death(2, 3); due(-3, x.ring(0, 1)); bytes(1, 2, 2); due(-1, x.ring(1, 1)); bytes(1, 1, 0); due(8, x.ring(1, 1));
        fillBook();
        due(-2, x.ring(0, 1)); due(-2, x.ring(6, 1)); due(-2, x.ring(5, 1)); due(-1, x.ring(0, 0)); bytes(1, 0); due(-2, x.ring(1, 1));
    }

    private static void p14() {
        valley(4);
        x.act(0, 1, 5, 0, 0); x.act(0, 2, 4, 0, 0); x.act(3, 0, 6, 0, 0); x.act(2, 1, 1, 0, 0);
        x.week(2);
        due(-1, x.death(0, 0)); due(-1, x.death(4, 0)); due(-1, x.death(0, -1));
        due(4, x.death(0, 2));
        due(6, x.owed(1, 2, 2, -1, 0)); due(0, x.owed(2, 0, 2, -1, 0)); due(0, x.owed(2, 2, 2, -1, 0)); due(0, x.owed(0, 3, 2, -1, 0)); due(6, x.all(2, -1, 0));
        due(16, x.all(1, -1, 0)); due(16, x.all(2, 4, 0));
        due(-3, x.death(0, 1)); due(-3, x.death(1, 0)); due(1, x.count(5));
        due(5, x.act(0, 1, 2, 1, 0)); due(8, x.owed(1, 2, 2, -1, 0));
        due(6, x.act(0, 1, 3, 2, 0)); due(8, x.owed(1, 2, 2, -1, 0)); due(3, x.owed(1, 0, 2, -1, 0));
        fillBook();
        due(-2, x.death(1, 2)); due(-2, x.death(0, 1)); due(-1, x.death(1, 1)); due(-4, x.about(1, 5));
    }

    private static void p15() {
        valley(4); x.week(3);
        text(0, "h"); bytes(1, 3, 1, 2);
        x.custom(0); x.act(2, 1, 9, 1, 1); x.judge(1, true); x.gift(1); x.forgive(1, 2, 77); x.ring(1, 88); x.death(3, 0); x.judge(1, false);
        int[][] want = {{0, 3, -4, -4, -4}, {1, 1, 2, 1, 9}, {2, 3, 1, 1, -4}, {3, 3, 1, -4, -4}, {4, 3, 1, 2, 77}, {5, 3, 3, 1, 88}, {6, 3, 3, 0, -4}, {2, 3, 1, 0, -4}};
        for (int e = 0; e < 8; e++) for (int k = 0; k < 5; k++) due(want[e][k], x.entry(e, k));
        due(-1, x.entry(8, 0)); due(-1, x.entry(-1, 0)); due(-1, x.entry(0, 5)); due(-1, x.entry(0, -1));
    }

    private static void p16() {
        valley(0); x.folk(2, 0, 0); x.folk(1, 1, 0); x.week(110);
        x.act(0, 1, 4, 110, 3); due(4, x.counts(0, -1, 1)); due(0, x.counts(0, -1, 0)); due(4, x.counts(0, -1, 2)); due(0, x.counts(0, -1, 3));
        text(0, "h*10+n*5+g-t+s+w+y-(20)"); x.custom(0);
        due(36, x.counts(0, -1, 1)); due(4, x.counts(0, 1, 1)); due(0, x.counts(0, 1, 0));
        x.act(0, 1, 4, 109, 0); due(4, x.counts(2, -1, 0)); due(-1, x.counts(2, 2, 0)); due(4, x.counts(2, 3, 0));
        x.week(200); text(0, "1"); x.custom(0); x.act(1, 0, 20, 199, 0); x.act(1, 0, 20, 200, 0);
        due(60, x.counts(4, -1, 0)); due(1, x.counts(5, -1, 0)); due(36, x.counts(0, -1, 1));
        int[] weeks = {0, 12, 13, 25, 26, 39, 51, 52, 103, 104, 155, 156, 519, 520}, seasons = {0, 0, 1, 1, 2, 3, 3, 0, 3, 0, 3, 0, 3, 0}, years = {0, 0, 0, 0, 0, 0, 0, 1, 1, 2, 2, 3, 9, 10};
        for (int i = 0; i < weeks.length; i++) {
            valley(2);
            x.week(520);
            due(0, x.act(0, 1, 3, weeks[i], 0)); due(3, x.counts(0, -1, 0));
            valley(2);
            text(0, "s*12+y"); x.custom(0); x.week(520);
            due(12 * seasons[i] + years[i], x.counts(x.act(0, 1, 3, weeks[i], 0), -1, 0));
        }
        valley(0); x.folk(2, 0, 0); x.folk(1, 1, 0); x.week(110); x.act(0, 1, 4, 110, 3); x.custom(7);
        text(0, "h"); x.custom(0); x.act(0, 1, 4, 109, 0); x.week(200); x.custom(0); x.act(1, 0, 20, 199, 0); x.act(1, 0, 20, 200, 0);
        due(-1, x.counts(1, -1, 0)); due(-1, x.counts(6, -1, 0)); due(-1, x.counts(-1, -1, 0)); due(-1, x.counts(0, 7, 0)); due(-1, x.counts(0, -2, 0));
        due(-1, x.counts(0, -1, -1)); due(-1, x.counts(0, -1, 4)); due(-1, x.counts(0, 0, 0));
    }

    private static void p17() {
        valley(2);
        x.act(0, 1, 5, 0, 0); x.act(0, 1, 7, 0, 1); x.week(5); x.act(0, 1, 2, 5, 0);
        due(5, x.owed(1, 0, 0, -1, 0)); due(12, x.owed(1, 0, 0, -1, 1)); due(12, x.owed(1, 0, 4, -1, 2)); due(5, x.owed(1, 0, 0, -1, 3));
        due(7, x.owed(1, 0, 5, -1, 0)); due(7, x.owed(1, 0, 520, -1, 0)); due(0, x.owed(1, 0, 5, 0, 0)); due(5, x.owed(1, 0, 5, 2, 0));
        due(0, x.owed(0, 1, 5, -1, 0)); due(0, x.owed(0, 0, 5, -1, 0));
        due(-1, x.owed(2, 0, 0, -1, 0)); due(-1, x.owed(0, -1, 0, -1, 0)); due(-1, x.owed(1, 0, -1, -1, 0)); due(-1, x.owed(1, 0, 521, -1, 0));
        due(-1, x.owed(1, 0, 0, 4, 0)); due(-1, x.owed(1, 0, 0, -2, 0)); due(-1, x.owed(1, 0, 0, -1, 4)); due(-1, x.owed(1, 0, 0, -1, -1)); due(7, x.owed(1, 0, 5, 3, 0));
        x.forgive(1, 0, 6); x.act(0, 1, 3, 4, 0); due(4, x.owed(1, 0, 5, -1, 0)); due(8, x.owed(1, 0, 4, -1, 0)); due(1, x.owed(1, 0, 5, 4, 0));
    }

    private static void p18() {
        valley(3);
        x.act(0, 1, 5, 0, 0); x.act(1, 2, 3, 0, 0); x.act(2, 1, 1, 0, 1);
        due(5, x.balance(0, 0, -1, 0)); due(-2, x.balance(1, 0, -1, 0)); due(-3, x.balance(2, 0, -1, 0)); due(-3, x.balance(1, 0, -1, 1)); due(-5, x.balance(1, 0, 1, 0));
        due(1, thrownByBalance(3, 0, -1, 0)); due(1, thrownByBalance(-1, 0, -1, 0)); due(1, thrownByBalance(0, 521, -1, 0)); due(1, thrownByBalance(0, -1, -1, 0));
        due(1, thrownByBalance(0, 0, 4, 0)); due(1, thrownByBalance(0, 0, -2, 0)); due(1, thrownByBalance(0, 0, -1, 5)); due(0, thrownByBalance(0, 520, 3, 4));
    }

    private static void p19() {
        valley(3);
        x.act(0, 1, 5, 0, 0); x.act(1, 0, 4, 0, 1); x.act(1, 2, 3, 0, 2); x.week(1);
        due(8, x.all(0, -1, 0)); due(12, x.all(0, -1, 1)); due(12, x.all(1, -1, 3)); due(8, x.all(1, -1, 2)); due(5, x.all(0, 1, 0)); due(0, x.all(0, 0, 0));
        due(-1, x.all(521, -1, 0)); due(-1, x.all(-1, -1, 0)); due(-1, x.all(0, 4, 0)); due(-1, x.all(0, -1, 5)); due(-1, x.all(0, -1, -1)); due(-1, x.all(0, -3, 0));
    }

    private static void p20() {
        valley(8);
        for (int i = 0; i < 7; i++) x.act((i + 1) % 7, i, 9, 0, 0);
        due(-4, x.shortest(-1)); due(-4, x.shortest(0));
        x.act(0, 5, 4, 0, 0);
        due(4, x.shortest(-1)); for (int i = 0; i < 6; i++) due(i, x.shortest(i)); due(-4, x.shortest(6));
        x.act(3, 5, 1, 0, 1); due(4, x.shortest(-1)); x.judge(8, true);
        due(1, x.shortest(-1)); due(3, x.shortest(0)); due(4, x.shortest(1)); due(5, x.shortest(2)); due(-4, x.shortest(3));
        x.act(2, 4, 2, 0, 0); due(2, x.shortest(-1)); due(2, x.shortest(0)); due(3, x.shortest(1)); due(4, x.shortest(2));
        x.act(7, 6, 3, 0, 0); x.act(6, 7, 2, 0, 0); due(2, x.shortest(-1)); due(6, x.shortest(0)); due(7, x.shortest(1)); due(-4, x.shortest(2));
        due(-1, x.shortest(-2)); due(-1, x.shortest(Integer.MIN_VALUE));
        x.week(1); due(6, x.shortest(0)); x.forgive(6, 7, 3); due(2, x.shortest(0));
    }

    private static void p21() {
        valley(4);
        x.act(1, 0, 5, 0, 0); x.act(0, 1, 3, 0, 0); x.act(2, 1, 4, 0, 0); x.act(0, 2, 1, 0, 0);
        due(2, x.close()); due(6, x.count(1)); due(5, x.entry(4, 0)); due(3, x.entry(4, 4)); due(0, x.entry(4, 2)); due(1, x.entry(4, 3)); due(1, x.entry(5, 4));
        due(4, x.all(0, -1, 0)); due(0, x.close()); due(-4, x.shortest(-1)); due(1, x.owed(0, 1, 0, -1, 0)); due(3, x.owed(1, 2, 0, -1, 0));
        x.act(2, 3, 2, 0, 0); x.act(3, 2, 2, 0, 0); x.act(1, 3, 2, 0, 0); x.act(3, 1, 2, 0, 0);
        while (x.count(1) < 149) x.forgive(0, 3, 1);
        due(1, x.close()); due(150, x.count(1)); due(2, x.shortest(0)); due(3, x.shortest(1)); due(0, x.close());
    }

    private static void p22() {
        valley(4); due(0, x.most());
        x.act(1, 0, 5, 0, 0); due(0, x.most()); x.act(0, 1, 3, 0, 0); due(6, x.most());
        x.act(2, 1, 4, 0, 0); x.act(3, 2, 4, 0, 0); x.act(0, 3, 1, 0, 0); due(10, x.most());
        x.act(0, 2, 3, 0, 1); due(10, x.most()); x.judge(5, true);
        // 0 owes 1 five in all: 0-1-2-3 of one (4), 0-1-2 of three (9), 0-1 of one (2); by 0-1 first it would be less
        due(15, x.most());
    }

    private static void p23() {
        valley(2);
        x.act(0, 1, 5, 0, 0); ints(0, 0, 0); due(5, x.bound(0)); ints(0, 0, 1000); due(5005, x.bound(0)); ints(0, 1000, -1000); due(0, x.bound(0)); ints(0, 1, 0); due(0, x.bound(0));
        ints(0, -1000, 1000); due(10005, x.bound(0)); ints(0, -1001, 0); due(-13, x.bound(0)); ints(0, 0, 1001); due(-13, x.bound(0)); ints(0, 0); due(-13, x.bound(0)); ints(0, 0, 0, 0); due(-13, x.bound(0));
        due(-1, x.bound(8)); due(-1, x.bound(-1)); due(-11, x.bound(1)); x.row(1, 0, 2); due(-12, x.bound(1)); x.row(1, 1, 2); due(-12, x.bound(1)); x.keep(1, 1, 0); due(-12, x.bound(1));
        valley(0); ints(0); due(0, x.bound(0));
    }

    private static void p24() {
        valley(2);
        x.act(0, 1, 5, 0, 0); ints(0, 0, 0); due(0, x.proves(0)); ints(0, 1, 0); due(1, x.proves(0)); x.act(1, 0, 2, 0, 0); due(4, x.most());
        due(1, x.proves(0)); ints(0, 0, 0); due(0, x.proves(0)); ints(0, 2, 0); due(0, x.proves(0));
        due(-1, x.proves(8)); due(-11, x.proves(1)); x.row(1, 0, 2); due(-12, x.proves(1)); ints(1, 0); due(-13, x.proves(1)); ints(1, 0, 1001); due(-13, x.proves(1));
        valley(0); ints(0); due(1, x.proves(0));
    }

    private static void p25() {
        valley(2); x.week(10);
        due(0, x.need(0, 0, 1, 10)); due(1, x.need(0, 4, 12, 520));
        due(-1, x.need(2, 0, 1, 10)); due(-1, x.need(-1, 0, 1, 10)); due(-1, x.need(0, 5, 1, 10)); due(-1, x.need(0, -1, 1, 10)); due(-1, x.need(0, 0, 0, 10));
        due(-1, x.need(0, 0, 13, 10)); due(-1, x.need(0, 0, 1, 9)); due(-1, x.need(0, 0, 1, 521)); due(2, x.count(3));
        x.death(1, 0); due(-3, x.need(1, 0, 1, 10));
        for (int i = 2; i < 30; i++) due(i, x.need(0, 0, 1, 10));
        due(-2, x.need(0, 0, 1, 10)); due(-2, x.need(1, 0, 1, 10)); due(-1, x.need(0, 0, 1, 9)); due(30, x.count(3)); due(30, x.count(4));
    }

    private static void p26() {
        valley(0); x.folk(3, 0, 0); x.folk(4, 0, 0); x.week(2);
        due(7, x.free(0, 2)); due(5, x.free(1, 520)); x.act(0, 1, 3, 2, 1); due(4, x.free(0, 2)); due(7, x.free(0, 1)); due(5, x.free(1, 2)); x.gift(0); due(4, x.free(0, 2));
        x.judge(0, false); due(4, x.free(0, 2)); x.act(0, 1, 4, 2, 0); due(0, x.free(0, 2)); x.act(0, 1, 4, 2, 0); due(0, x.free(0, 2));
        due(-1, x.free(2, 0)); due(-1, x.free(-1, 0)); due(-1, x.free(0, -1)); due(-1, x.free(0, 521));
    }

    private static void p27() {
        valley(0); x.folk(0, 0, 1); x.folk(0, 0, 3); x.folk(1, 1, 1); x.folk(0, 2, 2); x.folk(0, 0, 1);
        x.need(0, 0, 5, 0); due(18, x.could(0)); x.road(0, 1, 1); due(22, x.could(0)); x.need(0, 0, 6, 0); due(18, x.could(1)); x.need(0, 0, 5, 13); due(18, x.could(2));
        x.need(1, 1, 1, 0); due(0, x.could(3)); x.road(1, 2, 1); due(8, x.could(3));
        x.act(4, 3, 6, 0, 1); due(6, x.could(0)); due(18, x.could(2));
        x.death(4, 3); due(2, x.could(2)); x.death(1, 3); due(0, x.could(3)); due(4, x.could(0));
        due(-1, x.could(4)); due(-1, x.could(-1)); x.meet(0, 2); due(-3, x.could(0));
    }

    private static void p28() {
        valley(4);
        x.need(0, 0, 3, 0); due(1, x.best(0)); x.act(0, 2, 5, 0, 0); due(2, x.best(0)); x.act(0, 3, 5, 0, 0); due(2, x.best(0)); x.act(0, 3, 1, 0, 1); due(2, x.best(0));
        x.judge(2, true); due(3, x.best(0)); x.act(3, 1, 8, 0, 0); due(2, x.best(0)); due(-1, x.best(1)); due(-1, x.best(-1));
        x.need(0, 0, 11, 0); due(-4, x.best(1)); x.meet(0, 1); due(-3, x.best(0));
    }

    private static void p29() {
        valley(3);
        x.need(0, 2, 4, 0); x.need(0, 2, 4, 1);
        due(-1, x.meet(2, 1)); due(-1, x.meet(-1, 1)); due(-1, x.meet(0, 3)); due(-1, x.meet(0, -1)); due(-3, x.meet(0, 0)); due(-3, x.meet(1, 1));
        due(0, x.meet(0, 1)); due(-3, x.meet(0, 2)); due(1, x.entry(0, 0)); due(0, x.entry(0, 1)); due(1, x.entry(0, 2)); due(0, x.entry(0, 3)); due(4, x.entry(0, 4));
        due(-3, x.judge(0, true)); due(4, x.owed(0, 1, 0, -1, 0)); due(6, x.free(1, 0)); due(1, x.count(4));
        x.week(1); text(0, "n"); x.custom(0); due(2, x.meet(1, 2)); due(0, x.counts(2, -1, 0)); x.need(0, 0, 1, 1); x.week(2); due(-3, x.meet(2, 1));
        x.need(0, 0, 1, 2); x.need(1, 0, 1, 2); x.death(1, 0); due(-3, x.meet(4, 0)); due(-3, x.meet(3, 1));
        fillBook();
        due(-2, x.meet(3, 2)); due(-2, x.meet(0, 2)); due(-1, x.meet(9, 2)); due(4, x.count(4) + 1);
    }

    private static void p30() {
        valley(0); x.folk(0, 0, 1); x.folk(0, 1, 2); x.folk(0, 2, 4); x.folk(0, 0, 0);
        for (int p = 0; p < 5; p++) x.road(p, p + 1, 15);
        due(0, x.barn(0));
        x.need(3, 0, 5, 0); x.need(3, 0, 5, 0); due(2, x.barn(0)); x.need(3, 0, 1, 0); due(2, x.barn(0));
        x.need(1, 2, 2, 0); due(3, x.barn(0)); x.need(0, 2, 2, 0); due(3, x.barn(0)); x.need(3, 2, 2, 0); due(3, x.barn(0)); due(0, x.barn(1));
        due(-4, x.helper(5)); due(0, x.meet(0, 0)); due(3, x.barn(0)); due(2, x.helper(5));
        due(-1, x.barn(-1)); due(-1, x.barn(521)); due(0, x.barn(520));
        // helping in the own place counts: 0 can't help at home and away
        valley(0); x.folk(0, 0, 1); x.folk(0, 0, 0); x.folk(0, 1, 0); x.road(0, 1, 15); x.need(1, 0, 1, 0); x.need(2, 0, 1, 0); due(1, x.barn(0)); due(0, x.helper(0)); due(-4, x.helper(1));
    }

    private static void p31() {
        valley(3);
        x.need(0, 0, 6, 0); x.need(0, 0, 6, 0); x.need(0, 0, 6, 0);
        due(2, x.barn(0)); due(1, x.helper(0)); due(2, x.helper(1)); due(-4, x.helper(2));
        x.need(0, 0, 4, 0); due(3, x.barn(0)); due(1, x.helper(0)); due(2, x.helper(1)); due(-4, x.helper(2)); due(1, x.helper(3));
        x.need(0, 0, 4, 0); due(4, x.barn(0)); due(2, x.helper(4)); x.need(0, 0, 1, 0); due(-4, x.helper(5)); x.need(0, 0, 1, 3); due(1, x.helper(6));
        due(-1, x.helper(7)); due(-1, x.helper(-1)); x.meet(2, 2); due(-3, x.helper(2)); due(1, x.helper(0)); due(-4, x.helper(1)); due(1, x.helper(3)); due(2, x.helper(4));
        // the first need gets 1 and not the least helper, where that meets more
        valley(0); x.folk(0, 0, 3); x.folk(0, 0, 1); x.folk(0, 0, 0); x.need(2, 0, 6, 0); x.need(2, 1, 6, 0);
        due(2, x.barn(0)); due(1, x.helper(0)); due(0, x.helper(1));
    }

    private static void p32() {
        valley(3); x.week(9);
        x.act(0, 1, 1, 0, 1); x.act(0, 1, 1, 0, 3); x.act(0, 1, 1, 0, 2); x.judge(0, false); x.need(0, 0, 1, 9); x.need(0, 0, 1, 9); x.meet(0, 1); x.death(2, 0);
        int[] want = {3, 6, 9, 2, 1, 1, 1};
        for (int k = 0; k < 7; k++) due(want[k], x.count(k));
        due(-1, x.count(7)); due(-1, x.count(-1));
    }

    private static void p33() {
        valley(1);
        due(0, x.keep(0, 1, 0)); due(120, x.weight(0)); due(0, x.keep(0, 0, 99)); due(-11, x.weight(0)); due(0, x.keep(7, 0, -5));
        due(-1, x.keep(8, 0, 0)); due(-1, x.keep(-1, 1, 0)); due(-1, x.keep(0, 2, 0)); due(-1, x.keep(0, -1, 0)); due(-1, x.keep(0, 1, 1)); due(-1, x.keep(0, 1, -1));
        x.row(0, 0, 2); due(0, x.keep(0, 0, 0)); due(-11, x.put(0, 0, 1));
    }

    private static void p34() {
        valley(1);
        due(0, x.row(0, 2, 80)); due(0, x.element(0, 79)); due(2, thrownByElement(0, 80)); due(0, x.row(0, 1, 0)); due(2, thrownByElement(0, 0));
        due(-1, x.row(0, 2, 81)); due(-14, x.row(0, 2, -1)); due(-14, x.row(0, 0, Integer.MIN_VALUE)); due(-1, x.row(0, 3, -1)); due(-1, x.row(8, 0, -1)); due(-1, x.row(-1, 0, 1)); due(-1, x.row(0, -1, 1));
        x.row(0, 2, 3); x.put(0, 2, 7); due(-14, x.row(0, 0, -1)); due(7, x.element(0, 2)); x.row(0, 2, 3); due(0, x.element(0, 2));
        x.keep(0, 1, 0); due(0, x.row(0, 0, 1)); due(-12, x.weight(0));
    }

    private static void p35() {
        valley(1); x.row(0, 0, 2); x.row(1, 1, 2); x.row(2, 2, 2);
        due(0, x.put(0, 0, 128)); due(-128, x.element(0, 0)); due(0, x.put(0, 1, 511)); due(-1, x.element(0, 1)); due(0, x.put(1, 0, 32768)); due(-32768, x.element(1, 0));
        due(0, x.put(1, 1, 65535 + 6)); due(5, x.element(1, 1)); due(0, x.put(2, 1, Integer.MIN_VALUE)); due(Integer.MIN_VALUE, x.element(2, 1)); due(0, x.element(2, 0));
        due(-1, x.put(8, 0, 0)); due(-1, x.put(-1, 0, 0)); due(-11, x.put(3, 0, 0)); due(-13, x.put(0, 2, 0)); due(-13, x.put(0, -1, 0)); x.keep(3, 1, 0); due(-12, x.put(3, 0, 0));
    }

    private static void p36() {
        valley(1); x.row(0, 0, 2); x.put(0, 1, 9); due(9, x.element(0, 1)); due(0, x.element(0, 0));
        due(1, thrownByElement(-1, 0)); due(1, thrownByElement(8, 0)); due(2, thrownByElement(1, 0)); due(2, thrownByElement(0, 2)); due(2, thrownByElement(0, -1)); x.keep(1, 1, 0); due(2, thrownByElement(1, 0));
    }

    private static void p37() {
        valley(1); bytes(0, 1, 2, 3, 4, 5); bytes(1, 0, 0, 0); ints(2, 1);
        due(3, x.copy(0, 1, 1, 0, 3)); due(2, x.element(1, 0)); due(4, x.element(1, 2)); due(4, x.copy(0, 0, 0, 1, 4));
        for (int i = 0; i < 5; i++) due(i == 0 ? 1 : i, x.element(0, i));
        due(4, x.copy(0, 1, 0, 0, 4)); due(1, x.element(0, 0)); due(2, x.element(0, 1)); due(4, x.element(0, 3)); due(4, x.element(0, 4));
        due(0, x.copy(0, 5, 1, 3, 0)); due(-13, x.copy(0, 6, 1, 0, 0)); due(-13, x.copy(0, 0, 1, 4, 0)); due(-13, x.copy(0, 3, 1, 0, 3)); due(-13, x.copy(0, 0, 1, 1, 3)); due(-13, x.copy(0, -1, 1, 0, 1)); due(-13, x.copy(0, 0, 1, -1, 1));
        due(-13, x.copy(0, 0, 1, 0, -1)); due(-13, x.copy(0, Integer.MAX_VALUE, 1, 0, 1)); due(-13, x.copy(0, 0, 1, 0, Integer.MAX_VALUE));
        due(-12, x.copy(0, 0, 2, 0, 1)); x.keep(3, 1, 0); due(-12, x.copy(3, 0, 0, 0, 1)); due(-12, x.copy(0, 0, 3, 0, 1)); due(-11, x.copy(4, 0, 0, 0, 1)); due(-11, x.copy(3, 0, 4, 0, 1)); due(-1, x.copy(8, 0, 4, 0, 1)); due(-1, x.copy(4, 0, -1, 0, 1));
        due(2, x.element(1, 0));
    }

    private static void p38() {
        x = new HourValley();
        for (int k = 0; k < 5; k++) { x.folk(k, 3, 9); x.keep(k, 1, k); }
        int[] want = {120, 117, 136, 147, 294};
        for (int k = 0; k < 5; k++) due(want[k], x.weight(k));
        due(-1, x.weight(-1)); due(-1, x.weight(8)); due(-11, x.weight(5)); x.row(5, 0, 0); due(-12, x.weight(5));
    }

    private static void p39() {
        x = new HourValley();
        int[] kinds = {4, 3, 1, 2, 0, 0};
        for (int k = 0; k < 6; k++) { x.folk(kinds[k], 0, 0); x.keep(k, 1, k); }
        int[] want = {100, 1, -15, 3, 4, 5};
        for (int k = 0; k < 6; k++) due(want[k], x.toss(k));
        x.death(4, 0); due(4, x.toss(4)); x.keep(6, 1, 4); due(-15, x.toss(6)); due(120, x.weight(6)); due(4, x.toss(4));
        due(-1, x.toss(-1)); due(-1, x.toss(8)); due(-11, x.toss(7)); x.row(7, 2, 3); due(-12, x.toss(7));
    }

    private static void all() {
        Runnable[] promises = {PromiseTest::p1, PromiseTest::p2, PromiseTest::p3, PromiseTest::p4, PromiseTest::p5, PromiseTest::p6, PromiseTest::p7, PromiseTest::p8,
            PromiseTest::p9, PromiseTest::p10, PromiseTest::p11, PromiseTest::p12, PromiseTest::p13, PromiseTest::p14, PromiseTest::p15, PromiseTest::p16, PromiseTest::p17,
            PromiseTest::p18, PromiseTest::p19, PromiseTest::p20, PromiseTest::p21, PromiseTest::p22, PromiseTest::p23, PromiseTest::p24, PromiseTest::p25, PromiseTest::p26,
            PromiseTest::p27, PromiseTest::p28, PromiseTest::p29, PromiseTest::p30, PromiseTest::p31, PromiseTest::p32, PromiseTest::p33, PromiseTest::p34, PromiseTest::p35,
            PromiseTest::p36, PromiseTest::p37, PromiseTest::p38, PromiseTest::p39};
        for (Runnable p : promises) {
            promise++;
            p.run();
        }
    }

    public static void main(String[] args) {
        all();
        System.out.println("PromiseTest: " + promise + " promises, " + asked + " answers, " + wrong + " wrong");
        if (wrong != 0 || promise != 39) System.exit(1);
    }
}
