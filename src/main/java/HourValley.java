import java.util.Arrays;

/** A valley where help is paid in hours owed: its folk and roads, its book, its rings, its needs, its shelves. */
public final class HourValley {
    private static final int NO_SUCH = -1;
    private static final int NO_ROOM = -2;
    private static final int NOT_NOW = -3;
    private static final int NONE = -4;
    private static final int NOTHING_HELD = -11;
    private static final int OTHER_KIND = -12;
    private static final int NOT_THERE = -13;
    private static final int BELOW_ZERO = -14;
    private static final int NO_FAILURE = -15;
    private static final int FAULTY = -100;

    private static final int MOST_FOLK = 12;
    private static final int KINDS = 5;
    private static final int PLACES = 6;
    private static final int SKILLS = 5;
    private static final int SEASONS = 4;
    private static final int LAST_WEEK = 520;
    private static final int MOST_ENTRIES = 150;
    private static final int MOST_HOURS = 20;
    private static final int MOST_COUNTED = 60;
    private static final int MOST_OFF = 1000;
    private static final int LEAST_RING = 2;
    private static final int MOST_RING = 6;
    private static final int MOST_PRICE = 1000;
    private static final int MOST_NEEDS = 30;
    private static final int MOST_ASKED = 12;
    private static final int ON_BARN_DAYS = 5;
    private static final int SHELVES = 8;
    private static final int MOST_ELEMENTS = 80;

    private final Folk folk = new Folk();
    private final Roads roads = new Roads();
    private final Book book = new Book(folk);
    private final Debts debts = new Debts();
    private final Rings rings = new Rings(debts);
    private final Settling settling = new Settling(debts);
    private final Needs needs = new Needs(folk, roads, book);
    private final Barn barnDays = new Barn(folk, needs);
    private final Shelves shelves = new Shelves();

    public HourValley() {
    }

    // ---- the valley

    public int folk(int kind, int place, int skills) {
        if (!below(kind, KINDS) || !below(place, PLACES) || !below(skills, 1 << SKILLS)) {
            return NO_SUCH;
        }
        return folk.size == MOST_FOLK ? NO_ROOM : folk.add(kind, place, skills);
    }

    public int about(int who, int what) {
        if (!folk.has(who)) {
            return NO_SUCH;
        }
        switch (what) {
            case 0: return folk.kind[who];
            case 1: return folk.place[who];
            case 2: return folk.skills[who];
            case 3: return folk.hoursOf(who);
            case 4: return folk.worthOf(who);
            case 5: return folk.died[who];
            default: return NO_SUCH;
        }
    }

    public int road(int a, int b, int seasons) {
        if (!below(a, PLACES) || !below(b, PLACES) || a == b || !below(seasons, 1 << SEASONS)) {
            return NO_SUCH;
        }
        return roads.open(a, b, seasons);
    }

    public int reached(int a, int b, int week) {
        if (!below(a, PLACES) || !below(b, PLACES) || !isWeek(week)) {
            return NO_SUCH;
        }
        return holds(roads.from(a, seasonOf(week)), b) ? 1 : 0;
    }

    public int week(int week) {
        if (week < book.now || week > LAST_WEEK) {
            return NO_SUCH;
        }
        int was = book.now;
        book.now = week;
        return was;
    }

    // ---- the book

    public int fault(int d) {
        int refusal = shelves.refusalOfRow(d, Shelves.BYTES);
        if (refusal != 0) {
            return refusal;
        }
        return book.reader.faultOf(shelves.rows[d], shelves.size[d]);
    }

    public int custom(int d) {
        if (!below(d, SHELVES)) {
            return NO_SUCH;
        }
        if (book.isFull()) {
            return NO_ROOM;
        }
        int fault = fault(d);
        if (fault >= 0) {
            return FAULTY - fault;
        }
        return fault == NONE ? book.tellCustom(shelves.rows[d], shelves.size[d]) : fault;
    }

    public int act(int gave, int took, int hours, int week, int how) {
        if (!folk.has(gave) || !folk.has(took) || gave == took || !within(hours, 1, MOST_HOURS)
                || !within(week, 0, book.now) || !below(how, 4)) {
            return NO_SUCH;
        }
        if (book.isFull()) {
            return NO_ROOM;
        }
        if (folk.wasDeadIn(gave, week) || folk.wasDeadIn(took, week)) {
            return NOT_NOW;
        }
        return book.tellAct(gave, took, hours, week, how);
    }

    public int judge(int act, boolean counts) {
        if (!book.isAct(act)) {
            return NO_SUCH;
        }
        if (book.isFull()) {
            return NO_ROOM;
        }
        return book.isDoubted(act) ? book.tellJudged(act, counts) : NOT_NOW;
    }

    public int gift(int act) {
        if (!book.isAct(act)) {
            return NO_SUCH;
        }
        if (book.isFull()) {
            return NO_ROOM;
        }
        return book.isGift(act, book.size) ? NOT_NOW : book.tellGift(act);
    }

    public int forgive(int a, int b, int n) {
        if (!folk.has(a) || !folk.has(b) || !within(n, 1, MOST_OFF)) {
            return NO_SUCH;
        }
        if (book.isFull()) {
            return NO_ROOM;
        }
        return folk.isDead(a) || folk.isDead(b) ? NOT_NOW : book.tellNow(Book.FORGIVEN, a, b, n);
    }

    public int ring(int d, int n) {
        if (!below(d, SHELVES) || !within(n, 1, MOST_OFF)) {
            return NO_SUCH;
        }
        if (book.isFull()) {
            return NO_ROOM;
        }
        int refusal = shelves.refusalOfRow(d, Shelves.BYTES);
        if (refusal != 0) {
            return refusal;
        }
        if (!folk.areRing(shelves.rows[d], shelves.size[d])) {
            return NO_SUCH;
        }
        if (folk.oneIsDead(shelves.rows[d], shelves.size[d])) {
            return NOT_NOW;
        }
        return book.tellRing(shelves.rows[d], shelves.size[d], n);
    }

    public int death(int who, int heir) {
        if (!folk.has(who) || !folk.has(heir) || who == heir) {
            return NO_SUCH;
        }
        if (book.isFull()) {
            return NO_ROOM;
        }
        if (folk.isDead(who) || folk.isDead(heir)) {
            return NOT_NOW;
        }
        folk.died[who] = book.now;
        return book.tellNow(Book.DEATH, who, heir, NONE);
    }

    public int entry(int entry, int what) {
        return below(entry, book.size) ? book.tellOf(entry, what) : NO_SUCH;
    }

    public int counts(int act, int e, int view) {
        int until = book.untilOf(e);
        if (!book.isAct(act) || act >= until || !folk.isView(view)) {
            return NO_SUCH;
        }
        return book.countOf(act, until, view);
    }

    public int owed(int a, int b, int week, int e, int view) {
        if (!folk.has(a) || !folk.has(b) || !workAnew(week, e, view)) {
            return NO_SUCH;
        }
        return debts.owes[a][b];
    }

    public long balance(int who, int week, int e, int view) throws IllegalArgumentException {
        if (!folk.has(who) || !workAnew(week, e, view)) {
            throw new IllegalArgumentException("no such one, week, entry or view");
        }
        return debts.netOf(who);
    }

    public int all(int week, int e, int view) {
        return workAnew(week, e, view) ? debts.sum() : NO_SUCH;
    }

    // ---- rings

    public int shortest(int i) {
        if (i < -1) {
            return NO_SUCH;
        }
        workNow();
        rings.find();
        if (rings.size == 0 || i >= rings.size) {
            return NONE;
        }
        return i == -1 ? debts.leastIn(rings.members, rings.size) : rings.members[i];
    }

    public int close() {
        workNow();
        int told = 0;
        rings.find();
        for (int room = MOST_ENTRIES - book.size; room > 0 && rings.size > 0; room--) {
            int hours = debts.leastIn(rings.members, rings.size);
            book.tellRing(rings.members, rings.size, hours);
            debts.cancel(rings.members, rings.size, hours);
            told++;
            rings.find();
        }
        return told;
    }

    public int most() {
        workNow();
        return settling.mostOff();
    }

    public int bound(int d) {
        int refusal = refusalOfPrices(d);
        if (refusal != 0) {
            return refusal;
        }
        workNow();
        return settling.boundBy(shelves.rows[d], folk.size);
    }

    public int proves(int d) {
        int refusal = refusalOfPrices(d);
        if (refusal != 0) {
            return refusal;
        }
        workNow();
        return settling.boundBy(shelves.rows[d], folk.size) == settling.mostOff() ? 1 : 0;
    }

    // ---- needs

    public int need(int who, int skill, int hours, int week) {
        if (!folk.has(who) || !below(skill, SKILLS) || !within(hours, 1, MOST_ASKED)
                || !within(week, book.now, LAST_WEEK)) {
            return NO_SUCH;
        }
        if (needs.size == MOST_NEEDS) {
            return NO_ROOM;
        }
        return folk.isDead(who) ? NOT_NOW : needs.add(who, skill, hours, week);
    }

    public int free(int who, int week) {
        if (!folk.has(who) || !isWeek(week)) {
            return NO_SUCH;
        }
        return needs.freeIn(who, week);
    }

    public int could(int need) {
        int refusal = needs.refusalOf(need);
        return refusal != 0 ? refusal : needs.ableFor(need);
    }

    public int best(int need) {
        int able = could(need);
        if (able < 0) {
            return able;
        }
        workNow();
        int best = NONE;
        for (int one = 0; one < folk.size; one++) {
            if (holds(able, one) && (best == NONE || owesMore(one, best, needs.who[need]))) {
                best = one;
            }
        }
        return best;
    }

    public int meet(int need, int who) {
        if (!needs.has(need) || !folk.has(who)) {
            return NO_SUCH;
        }
        if (book.isFull()) {
            return NO_ROOM;
        }
        if (needs.met[need] || needs.week[need] != book.now || !holds(needs.ableFor(need), who)) {
            return NOT_NOW;
        }
        needs.met[need] = true;
        return book.tellAct(who, needs.who[need], needs.hours[need], book.now, 0);
    }

    public int barn(int week) {
        return isWeek(week) ? barnDays.planFor(week) : NO_SUCH;
    }

    public int helper(int need) {
        int refusal = needs.refusalOf(need);
        if (refusal != 0) {
            return refusal;
        }
        barnDays.planFor(needs.week[need]);
        return barnDays.helperOf(need);
    }

    public int count(int what) {
        switch (what) {
            case 0: return folk.size;
            case 1: return book.size;
            case 2: return book.now;
            case 3: return needs.size;
            case 4: return needs.openOnes();
            case 5: return folk.deadOnes();
            case 6: return book.doubtedStill();
            default: return NO_SUCH;
        }
    }

    // ---- shelves

    public int keep(int d, int what, int k) {
        if (!below(d, SHELVES) || !below(what, 2) || (what == 1 && !folk.has(k))) {
            return NO_SUCH;
        }
        if (what == 0) {
            shelves.holds[d] = Shelves.NOTHING;
        } else {
            shelves.holdOne(d, k, folk.isDead(k));
        }
        return 0;
    }

    public int row(int d, int sort, int n) {
        if (!below(d, SHELVES) || !below(sort, 3) || n > MOST_ELEMENTS) {
            return NO_SUCH;
        }
        if (n < 0) {
            return BELOW_ZERO;
        }
        shelves.holdRow(d, sort, n);
        return 0;
    }

    public int put(int d, int i, int v) {
        int refusal = shelves.refusalOfRow(d, Shelves.ANY_SORT);
        if (refusal != 0) {
            return refusal;
        }
        if (!below(i, shelves.size[d])) {
            return NOT_THERE;
        }
        shelves.rows[d][i] = Shelves.cut(shelves.sort[d], v);
        return 0;
    }

    public long element(int d, int i) throws IllegalArgumentException, IllegalStateException {
        if (!below(d, SHELVES)) {
            throw new IllegalArgumentException("no such shelf");
        }
        if (shelves.refusalOfRow(d, Shelves.ANY_SORT) != 0 || !below(i, shelves.size[d])) {
            throw new IllegalStateException("no row, or no such place in it");
        }
        return shelves.rows[d][i];
    }

    public int copy(int d, int i, int e, int j, int n) {
        if (!below(d, SHELVES) || !below(e, SHELVES)) {
            return NO_SUCH;
        }
        if (shelves.holds[d] == Shelves.NOTHING || shelves.holds[e] == Shelves.NOTHING) {
            return NOTHING_HELD;
        }
        if (shelves.holds[d] != Shelves.ROW || shelves.holds[e] != Shelves.ROW || shelves.sort[d] != shelves.sort[e]) {
            return OTHER_KIND;
        }
        if (!shelves.hasPart(d, i, n) || !shelves.hasPart(e, j, n)) {
            return NOT_THERE;
        }
        System.arraycopy(shelves.rows[d], i, shelves.rows[e], j, n);
        return n;
    }

    public int weight(int d) {
        int refusal = shelves.refusalOfOne(d);
        return refusal != 0 ? refusal : folk.weightOf(shelves.one[d]);
    }

    public int toss(int d) {
        int refusal = shelves.refusalOfOne(d);
        if (refusal != 0) {
            return refusal;
        }
        return shelves.wasDead[d] ? NO_FAILURE : folk.failureOf(shelves.one[d]);
    }

    // ---- what several calls share

    private static boolean below(int n, int bound) {
        return n >= 0 && n < bound;
    }

    private static boolean within(int n, int least, int greatest) {
        return n >= least && n <= greatest;
    }

    private static boolean isWeek(int week) {
        return within(week, 0, LAST_WEEK);
    }

    private static int seasonOf(int week) {
        return week / 13 % SEASONS;
    }

    private static boolean holds(int bits, int bit) {
        return (bits >> bit & 1) == 1;
    }

    /** Works out who owes what by all, as of the week, view 0. */
    private void workNow() {
        book.work(debts, book.now, book.size, 0);
    }

    /** Works out who owes what; false, and nothing is worked out, if there is no such week, entry or view. */
    private boolean workAnew(int week, int e, int view) {
        int until = book.untilOf(e);
        if (!isWeek(week) || until < 0 || !folk.isView(view)) {
            return false;
        }
        book.work(debts, week, until, view);
        return true;
    }

    private boolean owesMore(int one, int other, int whom) {
        return debts.owes[one][whom] > debts.owes[other][whom];
    }

    private int refusalOfPrices(int d) {
        int refusal = shelves.refusalOfRow(d, Shelves.INTS);
        if (refusal != 0) {
            return refusal;
        }
        if (shelves.size[d] != folk.size) {
            return NOT_THERE;
        }
        for (int one = 0; one < folk.size; one++) {
            if (!within(shelves.rows[d][one], -MOST_PRICE, MOST_PRICE)) {
                return NOT_THERE;
            }
        }
        return 0;
    }

    /** Those of the valley, by the numbers in which they came. */
    private static final class Folk {
        private static final int YOUNG = 1;
        private static final int SMITH = 2;
        private static final int ELDER = 3;
        private static final int JUDGE = 4;
        private static final int GROWN_HOURS = 10;
        private static final int ELDER_HOURS = GROWN_HOURS - 3;
        private static final int GROWN_WORTH = 10;
        private static final int ELDER_WORTH = GROWN_WORTH;

        private final int[] kind = new int[MOST_FOLK];
        private final int[] place = new int[MOST_FOLK];
        private final int[] skills = new int[MOST_FOLK];
        /** The week of the death of each, or NONE. */
        private final int[] died = new int[MOST_FOLK];
        private int size;

        int add(int ofKind, int inPlace, int withSkills) {
            kind[size] = ofKind;
            place[size] = inPlace;
            skills[size] = withSkills;
            died[size] = NONE;
            return size++;
        }

        boolean has(int who) {
            return below(who, size);
        }

        /** Views are 0, 1, and 2 and the number of one of the folk. */
        boolean isView(int view) {
            return below(view, 2 + size);
        }

        boolean isDead(int who) {
            return died[who] != NONE;
        }

        /** Whether one had died in an earlier week. */
        boolean wasDeadIn(int who, int week) {
            return isDead(who) && died[who] < week;
        }

        int deadOnes() {
            int dead = 0;
            for (int who = 0; who < size; who++) {
                dead += isDead(who) ? 1 : 0;
            }
            return dead;
        }

        int hoursOf(int who) {
            switch (kind[who]) {
                case YOUNG: return GROWN_HOURS / 2;
                case SMITH: return GROWN_HOURS + 2;
                case ELDER: return ELDER_HOURS;
                case JUDGE: return ELDER_HOURS - 2;
                default: return GROWN_HOURS;
            }
        }

        int worthOf(int who) {
            switch (kind[who]) {
                case YOUNG: return GROWN_WORTH - 3;
                case SMITH: return GROWN_WORTH + GROWN_WORTH / 2;
                case ELDER: return ELDER_WORTH;
                case JUDGE: return ELDER_WORTH + 2;
                default: return GROWN_WORTH;
            }
        }

        int weightOf(int who) {
            int weight = 100 + hoursOf(who) + worthOf(who);
            switch (kind[who]) {
                case YOUNG: return weight + 5;
                case SMITH: return weight + skills[who];
                case ELDER: return weight + 10 * place[who];
                case JUDGE: return 2 * (weight + 10 * place[who]);
                default: return weight;
            }
        }

        /** The number of the failure of one that wasn't dead. */
        int failureOf(int who) {
            if (kind[who] == YOUNG) {
                return NO_FAILURE;
            }
            return kind[who] == JUDGE ? who + 100 : who;
        }

        /** Whether a row tells a ring: 2 to 6 of the folk, none twice. */
        boolean areRing(int[] row, int n) {
            if (!within(n, LEAST_RING, MOST_RING)) {
                return false;
            }
            int seen = 0;
            for (int i = 0; i < n; i++) {
                if (!has(row[i]) || holds(seen, row[i])) {
                    return false;
                }
                seen |= 1 << row[i];
            }
            return true;
        }

        boolean oneIsDead(int[] row, int n) {
            for (int i = 0; i < n; i++) {
                if (isDead(row[i])) {
                    return true;
                }
            }
            return false;
        }
    }

    /** The roads between places, each with the seasons in which it is open. */
    private static final class Roads {
        private final int[][] seasons = new int[PLACES][PLACES];

        /** Sets when a road is open, and answers when it was. */
        int open(int a, int b, int when) {
            int was = seasons[a][b];
            seasons[a][b] = when;
            seasons[b][a] = when;
            return was;
        }

        /** The places that are reached from one in a season, as bits. */
        int from(int place, int season) {
            int met = 1 << place;
            for (int round = 1; round < PLACES; round++) {
                for (int p = 0; p < PLACES; p++) {
                    if (holds(met, p)) {
                        met |= nextTo(p, season);
                    }
                }
            }
            return met;
        }

        private int nextTo(int place, int season) {
            int next = 0;
            for (int p = 0; p < PLACES; p++) {
                if (holds(seasons[place][p], season)) {
                    next |= 1 << p;
                }
            }
            return next;
        }
    }

    /** Reads the text of a custom; what it is worth is worked out while it is read. */
    private static final class Reader {
        private static final int DEEPEST = 8;
        private static final int MOST_DIGITS = 3;

        private int[] text = new int[0];
        private int size;
        private int at;
        private boolean failed;
        private int hours;
        private int night;
        private int gaveWorth;
        private int tookWorth;
        private int season;
        private int apart;
        private int year;

        /** The place of the first byte with which no custom can go on; NONE if the text is a custom. */
        int faultOf(int[] row, int n) {
            begin(row, n);
            sum(0);
            return failed || at < size ? at : NONE;
        }

        void tellFields(int h, int n, int g, int t, int s, int w, int y) {
            hours = h;
            night = n;
            gaveWorth = g;
            tookWorth = t;
            season = s;
            apart = w;
            year = y;
        }

        /** Sets where a text is read; sum(0) then reads it, and answers its value if it is a custom. */
        void begin(int[] row, int n) {
            text = row;
            size = Math.min(n, row.length);
            at = 0;
            failed = false;
        }

        /** The byte that is next, or 0 (which no custom holds) behind the last one and after a fault. */
        private int next() {
            return failed || at >= size ? 0 : text[at];
        }

        private void expect(int sign) {
            if (next() == sign) {
                at++;
            } else {
                failed = true;
            }
        }

        private int sum(int depth) {
            int value = product(depth);
            for (int turn = 0; turn < size && (next() == '+' || next() == '-'); turn++) {
                boolean more = next() == '+';
                at++;
                int other = product(depth);
                value = more ? value + other : value - other;
            }
            return value;
        }

        private int product(int depth) {
            int value = atom(depth);
            for (int turn = 0; turn < size && (next() == '*' || next() == '/'); turn++) {
                boolean times = next() == '*';
                at++;
                int other = atom(depth);
                value = times ? value * other : divided(value, other);
            }
            return value;
        }

        private static int divided(int value, int by) {
            return by == 0 ? 0 : value / by;
        }

        private int atom(int depth) {
            int sign = next();
            if (isDigit(sign)) {
                return number();
            }
            if (sign == '(' && depth < DEEPEST) {
                at++;
                int value = sum(depth + 1);
                expect(')');
                return value;
            }
            if (sign == '[' && depth < DEEPEST) {
                at++;
                return choice(depth + 1);
            }
            return field(sign);
        }

        private int choice(int depth) {
            int left = sum(depth);
            expect('<');
            int right = sum(depth);
            expect('?');
            int then = sum(depth);
            expect(':');
            int otherwise = sum(depth);
            expect(']');
            return left < right ? then : otherwise;
        }

        private static boolean isDigit(int sign) {
            return sign >= '0' && sign <= '9';
        }

        /** A 0 stands alone, so a digit behind it is left for who reads on, and is a fault there. */
        private int number() {
            int value = next() - '0';
            at++;
            for (int digits = 1; digits < MOST_DIGITS && value > 0 && isDigit(next()); digits++) {
                value = 10 * value + next() - '0';
                at++;
            }
            return value;
        }

        private int field(int sign) {
            switch (sign) {
                case 'h': return taken(hours);
                case 'n': return taken(night);
                case 'g': return taken(gaveWorth);
                case 't': return taken(tookWorth);
                case 's': return taken(season);
                case 'w': return taken(apart);
                case 'y': return taken(year);
                default:
                    failed = true;
                    return 0;
            }
        }

        private int taken(int value) {
            at++;
            return value;
        }
    }

    /** The entries as they were told, and what its acts count. */
    private static final class Book {
        private static final int CUSTOM = 0;
        private static final int ACT = 1;
        private static final int JUDGED = 2;
        private static final int GIFT = 3;
        private static final int FORGIVEN = 4;
        private static final int RING = 5;
        private static final int DEATH = 6;
        private static final int DOUBTED = 1;
        private static final int BY_NIGHT = 2;
        private static final int NO_ENTRY = -1;

        private final Folk folk;
        private final Reader reader = new Reader();
        private final int[] what = new int[MOST_ENTRIES];
        private final int[] week = new int[MOST_ENTRIES];
        private final int[] first = new int[MOST_ENTRIES];
        private final int[] second = new int[MOST_ENTRIES];
        private final int[] amount = new int[MOST_ENTRIES];
        private final int[] how = new int[MOST_ENTRIES];
        /** The text of a custom, the members of a ring; what is put on the shelf later doesn't change them. */
        private final int[][] rows = new int[MOST_ENTRIES][MOST_ELEMENTS];
        private final int[] rowSize = new int[MOST_ENTRIES];
        /** The entries by weeks, in a week as they were told. */
        private final int[] order = new int[MOST_ENTRIES];
        private final int[] customs = new int[MOST_ENTRIES];
        private int customsTold;
        /** The entry by which an act is a gift. */
        private final int[] giftBy = new int[MOST_ENTRIES];
        /** The custom by which an act was worth what stands in worked: most calls ask for the same again. */
        private final int[] workedBy = new int[MOST_ENTRIES];
        private final int[] worked = new int[MOST_ENTRIES];
        private int size;
        private int now;

        Book(Folk folk) {
            this.folk = folk;
        }

        boolean isFull() {
            return size >= MOST_ENTRIES;
        }

        boolean isAct(int entry) {
            return below(entry, size) && what[entry] == ACT;
        }

        boolean isDoubted(int act) {
            return (how[act] & DOUBTED) != 0;
        }

        /** By how many first entries a caller asks; NO_ENTRY if there are not so many. */
        int untilOf(int e) {
            if (e == -1) {
                return size;
            }
            return within(e, 0, size) ? e : NO_ENTRY;
        }

        int tellCustom(int[] text, int n) {
            customs[customsTold++] = size;
            return tellRow(CUSTOM, text, n, NONE, NONE, NONE);
        }

        int tellRing(int[] members, int n, int hours) {
            return tellRow(RING, members, n, members[0], members[1], hours);
        }

        private int tellRow(int sort, int[] row, int n, int a, int b, int hours) {
            rowSize[size] = n;
            System.arraycopy(row, 0, rows[size], 0, n);
            return tellNow(sort, a, b, hours);
        }

        int tellAct(int gave, int took, int hours, int when, int manner) {
            how[size] = manner;
            giftBy[size] = NO_ENTRY;
            workedBy[size] = NO_ENTRY;
            return tell(ACT, when, gave, took, hours);
        }

        int tellJudged(int act, boolean counting) {
            return tellNow(JUDGED, act, counting ? 1 : 0, NONE);
        }

        int tellGift(int act) {
            giftBy[act] = size;
            return tellNow(GIFT, act, NONE, NONE);
        }

        int tellNow(int sort, int a, int b, int n) {
            return tell(sort, now, a, b, n);
        }

        private int tell(int sort, int when, int a, int b, int n) {
            what[size] = sort;
            week[size] = when;
            first[size] = a;
            second[size] = b;
            amount[size] = n;
            int place = size;
            for (; place > 0 && week[order[place - 1]] > when; place--) {
                order[place] = order[place - 1];
            }
            order[place] = size;
            return size++;
        }

        int tellOf(int entry, int asked) {
            switch (asked) {
                case 0: return what[entry];
                case 1: return week[entry];
                case 2: return first[entry];
                case 3: return second[entry];
                case 4: return amount[entry];
                default: return NO_SUCH;
            }
        }

        boolean isGift(int act, int until) {
            return giftBy[act] != NO_ENTRY && giftBy[act] < until;
        }

        /** What was judged of an act last, 1 or 0; NONE if nothing was. */
        private int verdictOn(int act, int until) {
            for (int entry = until - 1; entry > act; entry--) {
                if (what[entry] == JUDGED && first[entry] == act) {
                    return second[entry];
                }
            }
            return NONE;
        }

        int doubtedStill() {
            int doubted = 0;
            for (int entry = 0; entry < size; entry++) {
                if (what[entry] == ACT && isDoubted(entry) && verdictOn(entry, size) == NONE) {
                    doubted++;
                }
            }
            return doubted;
        }

        int countOf(int act, int until, int view) {
            if (isGift(act, until) || (isDoubted(act) && !isBelieved(act, until, view))) {
                return 0;
            }
            int custom = customIn(week[act], until);
            return custom == NO_ENTRY ? amount[act] : valueBy(custom, act);
        }

        private boolean isBelieved(int act, int until, int view) {
            int verdict = verdictOn(act, until);
            if (verdict != NONE) {
                return verdict == 1;
            }
            return view == 1 || view == 2 + first[act];
        }

        /** The custom that is in force in a week, or NO_ENTRY. */
        private int customIn(int when, int until) {
            for (int k = customsTold - 1; k >= 0; k--) {
                if (customs[k] < until && week[customs[k]] <= when) {
                    return customs[k];
                }
            }
            return NO_ENTRY;
        }

        private int valueBy(int custom, int act) {
            if (workedBy[act] != custom) {
                tellFieldsOf(act);
                reader.begin(rows[custom], rowSize[custom]);
                worked[act] = Math.max(0, Math.min(reader.sum(0), MOST_COUNTED));
                workedBy[act] = custom;
            }
            return worked[act];
        }

        private void tellFieldsOf(int act) {
            int gave = first[act];
            int took = second[act];
            int night = (how[act] & BY_NIGHT) != 0 ? 1 : 0;
            int apart = folk.place[gave] != folk.place[took] ? 1 : 0;
            reader.tellFields(amount[act], night, folk.worthOf(gave), folk.worthOf(took),
                    seasonOf(week[act]), apart, week[act] / 52);
        }

        /** Lets the entries go by, so that debts are those as of a week by the first ones and a view. */
        void work(Debts debts, int when, int until, int view) {
            debts.clear();
            for (int k = 0; k < size && week[order[k]] <= when; k++) {
                int entry = order[k];
                if (entry < until && what[entry] == ACT) {
                    debts.owes[second[entry]][first[entry]] += countOf(entry, until, view);
                } else if (entry < until) {
                    pass(debts, entry);
                }
            }
        }

        /** Judged, gift and custom do nothing by themselves: they tell what acts count. */
        private void pass(Debts debts, int entry) {
            switch (what[entry]) {
                case FORGIVEN:
                    debts.lessen(first[entry], second[entry], amount[entry]);
                    break;
                case RING:
                    debts.cancel(rows[entry], rowSize[entry], amount[entry]);
                    break;
                case DEATH:
                    debts.inherit(first[entry], second[entry]);
                    break;
                default:
                    break;
            }
        }

        /** The hours that each gave in acts of a week, as told. */
        void addGiven(int when, int[] given) {
            for (int entry = 0; entry < size; entry++) {
                if (what[entry] == ACT && week[entry] == when) {
                    given[first[entry]] += amount[entry];
                }
            }
        }
    }

    /** What each of the folk owes each other one. */
    private static final class Debts {
        private final int[][] owes = new int[MOST_FOLK][MOST_FOLK];

        void clear() {
            for (int a = 0; a < MOST_FOLK; a++) {
                Arrays.fill(owes[a], 0);
            }
        }

        void lessen(int a, int b, int n) {
            owes[a][b] = Math.max(0, owes[a][b] - n);
        }

        /** The least that one of a ring owes the next one. */
        int leastIn(int[] ring, int n) {
            int least = owes[ring[n - 1]][ring[0]];
            for (int i = 1; i < n; i++) {
                least = Math.min(least, owes[ring[i - 1]][ring[i]]);
            }
            return least;
        }

        void cancel(int[] ring, int n, int hours) {
            int off = Math.min(hours, leastIn(ring, n));
            owes[ring[n - 1]][ring[0]] -= off;
            for (int i = 1; i < n; i++) {
                owes[ring[i - 1]][ring[i]] -= off;
            }
        }

        void inherit(int dead, int heir) {
            for (int one = 0; one < MOST_FOLK; one++) {
                if (one != heir) {
                    owes[one][heir] += owes[one][dead];
                }
                owes[one][dead] = 0;
            }
            Arrays.fill(owes[dead], 0);
        }

        int netOf(int who) {
            int net = 0;
            for (int one = 0; one < MOST_FOLK; one++) {
                net += owes[one][who] - owes[who][one];
            }
            return net;
        }

        int sum() {
            int sum = 0;
            for (int a = 0; a < MOST_FOLK; a++) {
                for (int b = 0; b < MOST_FOLK; b++) {
                    sum += owes[a][b];
                }
            }
            return sum;
        }
    }

    /** Finds the ring with the fewest members, of several the least as a row. */
    private static final class Rings {
        private static final int FAR = 100;

        private final int[][] owes;
        private final int[] members = new int[MOST_RING];
        private int size;
        /** By how many debts each leads to the one that a ring shall begin with. */
        private final int[] steps = new int[MOST_FOLK];

        Rings(Debts debts) {
            owes = debts.owes;
        }

        /** The size stays 0 if there is no ring. */
        void find() {
            size = 0;
            int start = 0;
            for (int one = 0; one < MOST_FOLK; one++) {
                layStepsTo(one);
                int n = lengthFrom(one);
                if (n > 0 && (size == 0 || n < size)) {
                    size = n;
                    start = one;
                }
            }
            if (size > 0) {
                layStepsTo(start);
                follow(start);
            }
        }

        /** Members below the start are left out: a ring begins with its least one. */
        private void layStepsTo(int start) {
            Arrays.fill(steps, FAR);
            steps[start] = 0;
            for (int n = 1; n < MOST_RING; n++) {
                for (int one = start + 1; one < MOST_FOLK; one++) {
                    if (steps[one] == FAR && nextOf(one, start, n - 1) != NONE) {
                        steps[one] = n;
                    }
                }
            }
        }

        /** The least one, from the start on, whom one owes something and who is so many steps off; NONE. */
        private int nextOf(int one, int start, int stepsOff) {
            for (int next = start; next < MOST_FOLK; next++) {
                if (steps[next] == stepsOff && owes[one][next] > 0) {
                    return next;
                }
            }
            return NONE;
        }

        private int lengthFrom(int start) {
            for (int n = LEAST_RING; n <= MOST_RING; n++) {
                if (nextOf(start, start, n - 1) != NONE) {
                    return n;
                }
            }
            return 0;
        }

        private void follow(int start) {
            members[0] = start;
            for (int i = 1; i < size; i++) {
                members[i] = Math.max(0, nextOf(members[i - 1], start, size - i));
            }
        }
    }

    /** The most hours that could be taken off at once, and what bounds them. */
    private static final class Settling {
        private static final int FAR = 1000;
        private static final int MOST_TURNS = MOST_ENTRIES * MOST_COUNTED;

        private final Debts debts;
        private final int[][] owes;
        /** The hours that must stay: the fewest that leave each balance as it is. */
        private final int[][] stays = new int[MOST_FOLK][MOST_FOLK];
        /** What each still has to owe less what is still to be owed to it. */
        private final int[] left = new int[MOST_FOLK];
        private final int[] far = new int[MOST_FOLK];
        private final int[] from = new int[MOST_FOLK];

        Settling(Debts debts) {
            this.debts = debts;
            owes = debts.owes;
        }

        int boundBy(int[] prices, int n) {
            int bound = 0;
            for (int a = 0; a < n; a++) {
                for (int b = 0; b < n; b++) {
                    bound += owes[a][b] * Math.max(0, 1 + prices[a] - prices[b]);
                }
            }
            return bound;
        }

        /**
         * All that is owed less the fewest hours with the same balances: these flow from those who owe more
         * to those who are owed more, by a shortest way each time, which may take back what went before.
         */
        int mostOff() {
            for (int one = 0; one < MOST_FOLK; one++) {
                left[one] = -debts.netOf(one);
                Arrays.fill(stays[one], 0);
            }
            int most = debts.sum();
            for (int turn = 0; turn < MOST_TURNS; turn++) {
                int end = nearestEnd();
                if (end == NONE) {
                    return most;
                }
                most -= far[end] * send(end);
            }
            return most;
        }

        /** Who is still to be owed something and is the nearest to one who still has to owe; NONE. */
        private int nearestEnd() {
            for (int one = 0; one < MOST_FOLK; one++) {
                far[one] = left[one] > 0 ? 0 : FAR;
                from[one] = NONE;
            }
            boolean nearer = true;
            for (int round = 0; nearer && round < MOST_FOLK; round++) {
                nearer = false;
                for (int one = 0; one < MOST_FOLK; one++) {
                    nearer = (far[one] < FAR && goOnFrom(one)) || nearer;
                }
            }
            int end = NONE;
            for (int one = 0; one < MOST_FOLK; one++) {
                if (left[one] < 0 && far[one] < FAR && (end == NONE || far[one] < far[end])) {
                    end = one;
                }
            }
            return end;
        }

        private boolean goOnFrom(int one) {
            boolean nearer = false;
            for (int next = 0; next < MOST_FOLK; next++) {
                int step = stays[next][one] > 0 ? -1 : 1;
                if (roomFor(one, next) > 0 && far[one] + step < far[next]) {
                    far[next] = far[one] + step;
                    from[next] = one;
                    nearer = true;
                }
            }
            return nearer;
        }

        /** How much can go from a to b: back, if something stays the other way, else on. */
        private int roomFor(int a, int b) {
            return stays[b][a] > 0 ? stays[b][a] : owes[a][b] - stays[a][b];
        }

        /** Sends as much as can go by the way that ends there. */
        private int send(int end) {
            int much = -left[end];
            int one = end;
            for (int step = 0; step < MOST_FOLK && from[one] != NONE; step++) {
                much = Math.min(much, roomFor(from[one], one));
                one = from[one];
            }
            much = Math.min(much, left[one]);
            left[one] -= much;
            left[end] += much;
            one = end;
            for (int step = 0; step < MOST_FOLK && from[one] != NONE; step++) {
                move(from[one], one, much);
                one = from[one];
            }
            return much;
        }

        private void move(int a, int b, int much) {
            if (stays[b][a] > 0) {
                stays[b][a] -= much;
            } else {
                stays[a][b] += much;
            }
        }
    }

    /** The needs as they came, and who could meet them. */
    private static final class Needs {
        private final Folk folk;
        private final Roads roads;
        private final Book book;
        private final int[] who = new int[MOST_NEEDS];
        private final int[] skill = new int[MOST_NEEDS];
        private final int[] hours = new int[MOST_NEEDS];
        private final int[] week = new int[MOST_NEEDS];
        private final boolean[] met = new boolean[MOST_NEEDS];
        private int size;
        private final int[] given = new int[MOST_FOLK];

        Needs(Folk folk, Roads roads, Book book) {
            this.folk = folk;
            this.roads = roads;
            this.book = book;
        }

        int add(int asks, int ofSkill, int forHours, int inWeek) {
            who[size] = asks;
            skill[size] = ofSkill;
            hours[size] = forHours;
            week[size] = inWeek;
            return size++;
        }

        boolean has(int need) {
            return below(need, size);
        }

        /** 0 if the need is there and open. */
        int refusalOf(int need) {
            if (!has(need)) {
                return NO_SUCH;
            }
            return met[need] ? NOT_NOW : 0;
        }

        int openOnes() {
            int open = 0;
            for (int need = 0; need < size; need++) {
                open += met[need] ? 0 : 1;
            }
            return open;
        }

        int freeIn(int one, int inWeek) {
            lookUpGiven(inWeek);
            return freeOf(one);
        }

        void lookUpGiven(int inWeek) {
            Arrays.fill(given, 0);
            book.addGiven(inWeek, given);
        }

        /** The free hours in the week that was looked up last. */
        int freeOf(int one) {
            return Math.max(0, folk.hoursOf(one) - given[one]);
        }

        /** Those who could meet an open need, as bits. */
        int ableFor(int need) {
            if (folk.isDead(who[need])) {
                return 0;
            }
            lookUpGiven(week[need]);
            int near = roads.from(folk.place[who[need]], seasonOf(week[need]));
            int able = 0;
            for (int one = 0; one < folk.size; one++) {
                if (isAble(one, need, near)) {
                    able |= 1 << one;
                }
            }
            return able;
        }

        private boolean isAble(int one, int need, int near) {
            return one != who[need] && !folk.isDead(one) && holds(folk.skills[one], skill[need])
                    && holds(near, folk.place[one]) && freeOf(one) >= hours[need];
        }
    }

    /** Who helps whom on the barn days of a week. */
    private static final class Barn {
        private static final int NOWHERE = -1;

        private final Folk folk;
        private final Needs needs;
        private final int[] chosen = new int[ON_BARN_DAYS];
        private int size;
        private final int[] able = new int[ON_BARN_DAYS];
        /** How many of the needs from one on somebody could meet at all. */
        private final int[] hopes = new int[ON_BARN_DAYS + 1];
        private final int[] helper = new int[ON_BARN_DAYS];
        private final int[] bestHelper = new int[ON_BARN_DAYS];
        private int bestMet;
        private final int[] free = new int[MOST_FOLK];
        private final int[] place = new int[MOST_FOLK];

        Barn(Folk folk, Needs needs) {
            this.folk = folk;
            this.needs = needs;
        }

        /** Plans the barn days of a week, and answers how many needs are met. */
        int planFor(int week) {
            choose(week);
            needs.lookUpGiven(week);
            for (int one = 0; one < folk.size; one++) {
                free[one] = needs.freeOf(one);
                place[one] = NOWHERE;
            }
            bestMet = -1;
            plan(0, 0);
            return bestMet;
        }

        private void choose(int week) {
            size = 0;
            for (int need = 0; need < needs.size && size < ON_BARN_DAYS; need++) {
                if (needs.week[need] == week && !needs.met[need]) {
                    chosen[size] = need;
                    able[size] = needs.ableFor(need);
                    size++;
                }
            }
            hopes[size] = 0;
            for (int i = size - 1; i >= 0; i--) {
                hopes[i] = hopes[i + 1] + (able[i] != 0 ? 1 : 0);
            }
        }

        /** Tries the helpers in their order, so that of equals the first plan found is the one that is wanted. */
        private void plan(int i, int met) {
            if (i > size || met + hopes[i] <= bestMet) {
                return;
            }
            if (i == size) {
                bestMet = met;
                System.arraycopy(helper, 0, bestHelper, 0, size);
                return;
            }
            for (int one = 0; one < folk.size; one++) {
                if (holds(able[i], one) && isFreeFor(one, chosen[i])) {
                    planWith(one, i, met);
                }
            }
            planWithout(i, met);
        }

        private boolean isFreeFor(int one, int need) {
            int where = folk.place[needs.who[need]];
            return free[one] >= needs.hours[need] && (place[one] == NOWHERE || place[one] == where);
        }

        private void planWith(int one, int i, int met) {
            int before = place[one];
            helper[i] = one;
            place[one] = folk.place[needs.who[chosen[i]]];
            free[one] -= needs.hours[chosen[i]];
            plan(i + 1, met + 1);
            free[one] += needs.hours[chosen[i]];
            place[one] = before;
        }

        private void planWithout(int i, int met) {
            helper[i] = NONE;
            plan(i + 1, met);
        }

        int helperOf(int need) {
            for (int i = 0; i < size; i++) {
                if (chosen[i] == need) {
                    return bestHelper[i];
                }
            }
            return NONE;
        }
    }

    /** The shelves: on each nothing, one of the folk as it was then, or a row. */
    private static final class Shelves {
        private static final int NOTHING = 0;
        private static final int ONE = 1;
        private static final int ROW = 2;
        private static final int BYTES = 0;
        private static final int SHORTS = 1;
        private static final int INTS = 2;
        private static final int ANY_SORT = 3;

        private final int[] holds = new int[SHELVES];
        private final int[] one = new int[SHELVES];
        private final boolean[] wasDead = new boolean[SHELVES];
        private final int[] sort = new int[SHELVES];
        private final int[] size = new int[SHELVES];
        private final int[][] rows = new int[SHELVES][MOST_ELEMENTS];

        void holdOne(int d, int who, boolean dead) {
            holds[d] = ONE;
            one[d] = who;
            wasDead[d] = dead;
        }

        void holdRow(int d, int ofSort, int n) {
            holds[d] = ROW;
            sort[d] = ofSort;
            size[d] = n;
            Arrays.fill(rows[d], 0);
        }

        /** 0 if there is a row of the sort. */
        int refusalOfRow(int d, int wanted) {
            int refusal = refusalOf(d, ROW);
            if (refusal != 0) {
                return refusal;
            }
            return wanted == ANY_SORT || sort[d] == wanted ? 0 : OTHER_KIND;
        }

        /** 0 if one of the folk is held. */
        int refusalOfOne(int d) {
            return refusalOf(d, ONE);
        }

        private int refusalOf(int d, int wanted) {
            if (!below(d, SHELVES)) {
                return NO_SUCH;
            }
            if (holds[d] == NOTHING) {
                return NOTHING_HELD;
            }
            return holds[d] == wanted ? 0 : OTHER_KIND;
        }

        boolean hasPart(int d, int i, int n) {
            return within(n, 0, size[d]) && within(i, 0, size[d] - n);
        }

        static int cut(int ofSort, int v) {
            switch (ofSort) {
                case BYTES: return (byte) v;
                case SHORTS: return (short) v;
                default: return v;
            }
        }
    }
}
