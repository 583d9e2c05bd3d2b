import java.util.Arrays;

/**
 * A famine code: districts with stores, classes and coins, signs by weeks that come late or are
 * put right, lines of a code that say at which signs which relief is open, weeks in which people
 * eat, buy, are paid, lack and die, grain brought by carts at least price, works in reach, what
 * the code would have done without a line; every week judged by what was known then.
 *
 * <p>All rows are made once, with the object: a call makes none.
 */
public final class FamineCode {
    public static final int NONE = -1;
    public static final int NO = -1000;

    private static final int DISTRICTS_MOST = 6;
    private static final int CLASSES = 3;
    private static final int SORTS = 4;
    private static final int SIGNS_MOST = 200;
    private static final int SIGN_MOST = 99;
    private static final int LINES_MOST = 12;
    private static final int KINDS = 6;
    private static final int WEEK_MOST = 60;
    private static final int WAYS_MOST = 12;
    private static final int WORKS_MOST = 8;
    private static final int SHEETS_MOST = 4;
    private static final int BACKS_MOST = 10;
    private static final int TONS_MOST = 99999;
    private static final int COINS_MOST = 99999;

    private static final int RELIEF = 0;
    private static final int TEST = 1;
    private static final int WORK = 2;
    private static final int KITCHEN = 3;
    private static final int LOAN = 4;
    private static final int REMIT = 5;
    private static final int[] KIND_ABOVE = {NONE, RELIEF, TEST, RELIEF, RELIEF, LOAN};

    private static final int DONE = 0;
    private static final int NO_SUCH = 1;
    private static final int NO_ROOM = 2;
    private static final int NOT_SO = 3;
    private static final int NOTHING_THERE = 10;
    private static final int OF_ANOTHER_SORT = 11;
    private static final int PLACE_OUTSIDE = 12;
    private static final int SIZE_BELOW_0 = 13;
    private static final int DOES_NOT_FIT = 14;
    private static final int DIVIDED_BY_0 = 15;

    private final State now;
    private final State kept;
    private final Land dreamt;
    private final Carts carts;
    private final Acts acts;
    private final Sheets sheets;
    private boolean hasKept;
    private int backs;
    private int latest;

    public FamineCode() {
        now = new State();
        kept = new State();
        dreamt = new Land();
        carts = new Carts();
        acts = new Acts();
        sheets = new Sheets();
    }

    public int district(int store, int price) {
        if (!within(store, 0, TONS_MOST) || !within(price, 1, 99)) {
            return refuse(NO_SUCH);
        }
        if (now.land.count >= DISTRICTS_MOST) {
            return refuse(NO_ROOM);
        }
        return done(now.land.add(store, price));
    }

    public int people(int district, int of, int n) {
        if (!isDistrict(district) || !isClass(of) || !within(n, 0, 999)) {
            return refuse(NO_SUCH);
        }
        return done(now.land.put(district, Land.PEOPLE + of, n));
    }

    public int coins(int district, int of, int n) {
        if (!isDistrict(district) || !isClass(of) || !within(n, 0, COINS_MOST)) {
            return refuse(NO_SUCH);
        }
        return done(now.land.put(district, Land.COINS + of, n));
    }

    public int price(int district, int n) {
        if (!isDistrict(district) || !within(n, 1, 99)) {
            return refuse(NO_SUCH);
        }
        return done(now.land.put(district, Land.PRICE, n));
    }

    public int wage(int n) {
        if (!within(n, 0, 99)) {
            return refuse(NO_SUCH);
        }
        int before = now.land.wage;
        now.land.wage = n;
        return done(before);
    }

    public int sign(int district, int sort, int week, int n) {
        boolean told = isDistrict(district) && isSort(sort) && within(week, 0, now.week);
        if (!told || !within(n, -SIGN_MOST, SIGN_MOST)) {
            return refuse(NO_SUCH);
        }
        if (now.signs.count >= SIGNS_MOST) {
            return refuse(NO_ROOM);
        }
        return done(now.signs.add(Signs.place(district, sort, week), n, now.week));
    }

    public int line(int kind, int test, int n, boolean unknown, int on) {
        boolean hangs = on == NONE || isLine(on);
        if (!isKind(kind) || !isTest(test) || !within(n, -400, 400) || !hangs) {
            return refuse(NO_SUCH);
        }
        if (now.code.count >= LINES_MOST) {
            return refuse(NO_ROOM);
        }
        int line = now.code.add(kind, test, n, now.week);
        now.code.put(line, Code.UNKNOWN, unknown ? 1 : 0);
        now.code.put(line, Code.ON, on);
        return done(line);
    }

    public int end(int line) {
        if (!isLine(line)) {
            return refuse(NO_SUCH);
        }
        if (now.code.get(line, Code.ENDED) != NONE) {
            return refuse(NOT_SO);
        }
        now.code.put(line, Code.ENDED, now.week);
        return done(now.week);
    }

    public int week() {
        if (now.week >= WEEK_MOST) {
            return refuse(NO_ROOM);
        }
        return done(now.passWeek());
    }

    public int way(int from, int to, int cap, int price) {
        boolean leads = isDistrict(from) && isDistrict(to) && from != to;
        if (!leads || !within(cap, 1, 999) || !within(price, 1, 99)) {
            return refuse(NO_SUCH);
        }
        if (now.ways.count >= WAYS_MOST) {
            return refuse(NO_ROOM);
        }
        return done(now.ways.add(from, to, cap, price));
    }

    public int work(int district, int hands, int worth) {
        if (!isDistrict(district) || !within(hands, 1, 999) || !within(worth, 0, 99)) {
            return refuse(NO_SUCH);
        }
        if (now.works.count >= WORKS_MOST) {
            return refuse(NO_ROOM);
        }
        return done(now.works.add(district, hands, worth));
    }

    public int bring(int district, int n, int keep) {
        if (!canAskLoad(district, n, keep)) {
            return refuse(NO_SUCH);
        }
        if (now.land.get(district, Land.STORE) + n > TONS_MOST) {
            return refuse(NO_ROOM);
        }
        if (!carts.plan(now.land, now.ways, district, n, keep)) {
            return refuse(NOT_SO);
        }
        carts.drive(now.land, now.ways);
        return done(carts.priceOf(now.ways));
    }

    public int image() {
        kept.copyFrom(now);
        hasKept = true;
        return done(1);
    }

    public int back() {
        if (backs >= BACKS_MOST) {
            return refuse(NO_ROOM);
        }
        if (!hasKept) {
            return refuse(NOT_SO);
        }
        now.copyFrom(kept);
        backs++;
        return done(now.week);
    }

    public int told(int district, int what) {
        if (!isDistrict(district) || !within(what, 0, Land.FACTS - 1)) {
            return NONE;
        }
        return now.land.get(district, what);
    }

    public int known(int district, int sort, int week, int at) {
        if (!isDistrict(district) || !isSort(sort) || !isAnyWeek(week) || !isAnyWeek(at)) {
            return NO;
        }
        return now.signs.asKnown(district, sort, week, at);
    }

    public int holds(int line, int district, int week, int at) {
        if (!isLine(line) || !isDistrict(district) || !isAnyWeek(week) || !isAnyWeek(at)) {
            return NONE;
        }
        return (now.code.holding(now.signs, district, week, at) >> line) & 1;
    }

    public int open(int district, int week, int at) {
        if (!isDistrict(district) || !isAnyWeek(week) || !isAnyWeek(at)) {
            return NONE;
        }
        int force = now.code.inForce(week);
        return now.code.kindsOf(force & now.code.holding(now.signs, district, week, at));
    }

    public int why(int kind, int district, int week, int at) {
        if (!isKind(kind) || !isDistrict(district) || !isAnyWeek(week) || !isAnyWeek(at)) {
            return NONE;
        }
        int force = now.code.inForce(week);
        return now.code.leastOf(kind, force & now.code.holding(now.signs, district, week, at));
    }

    public int was(int district, int week) {
        if (!isDistrict(district) || !within(week, 0, now.week - 1)) {
            return NONE;
        }
        return now.opened[district * WEEK_MOST + week];
    }

    public int lineTold(int line, int what) {
        if (!isLine(line) || !within(what, 0, Code.FACTS - 1)) {
            return NO;
        }
        return now.code.get(line, what);
    }

    public int load(int district, int n, int keep) {
        boolean planned = canAskLoad(district, n, keep)
            && carts.plan(now.land, now.ways, district, n, keep);
        return planned ? carts.priceOf(now.ways) : NONE;
    }

    public int loaded(int district, int n, int keep, int way) {
        boolean planned = within(way, 0, now.ways.count - 1) && canAskLoad(district, n, keep)
            && carts.plan(now.land, now.ways, district, n, keep);
        return planned ? carts.tons[way] : NONE;
    }

    public int fewest(int district, int hands, int r) {
        if (!isDistrict(district) || !within(hands, 0, 9999) || !within(r, 0, 5)) {
            return NONE;
        }
        return now.works.bestSet(now.ways.reached(district, r), hands);
    }

    public int beside(int line, int n, int what) {
        boolean without = line == NONE || isLine(line);
        if (!without || !within(n, 1, 20) || !within(what, 0, Land.SUMS - 1)) {
            return NONE;
        }
        now.dream(dreamt, line, Math.min(n, WEEK_MOST - now.week));
        return dreamt.sum(what) - now.land.sum(what);
    }

    public int count(int what) {
        switch (what) {
            case 0: return now.land.count;
            case 1: return now.week;
            case 2: return now.signs.count;
            case 3: return now.code.count;
            case 4: return now.ways.count;
            case 5: return now.works.count;
            case 6: return now.land.paid;
            case 7: return now.land.lent;
            case 8: return now.land.earned;
            case 9: return now.land.wage;
            case 10: return acts.ran;
            default: return NONE;
        }
    }

    public int act(int line, int act, int x) {
        if (!isLine(line) || !within(act, 0, Acts.ACTS - 1)) {
            return refuse(NO_SUCH);
        }
        return done(acts.run(now.code, line, act, x));
    }

    public int trace(int i) {
        return within(i, 0, acts.ran - 1) ? acts.trace[i] : NONE;
    }

    public int sheet(int sheet, int sort, int n) {
        boolean fits = sort == Sheets.MISSING || within(n, 0, Sheets.LONGEST);
        if (!isSheet(sheet) || !within(sort, Sheets.MISSING, Sheets.INTS) || !fits) {
            return refuse(NO_SUCH);
        }
        sheets.lay(sheet, sort, sort == Sheets.MISSING ? 0 : n);
        return done(1);
    }

    public int cell(int sheet, int i, int v) {
        if (!isSheet(sheet) || !within(v, -1000, 1000)) {
            return refuse(NO_SUCH);
        }
        if (sheets.isMissing(sheet)) {
            return refuse(NOTHING_THERE);
        }
        if (!sheets.spans(sheet, i, 1)) {
            return refuse(PLACE_OUTSIDE);
        }
        sheets.put(sheet, i, v);
        return done(1);
    }

    public int signs(int district, int sort, int sheet, int of, int i, int n) {
        boolean weeks = within(n, 0, 20) && n <= now.week + 1;
        if (!isDistrict(district) || !isSort(sort) || !isSheet(sheet) || !isSheetSort(of) || !weeks) {
            return refuse(NO_SUCH);
        }
        if (now.signs.count + n > SIGNS_MOST) {
            return refuse(NO_ROOM);
        }
        int fault = sheets.faultAs(sheet, of);
        if (fault != DONE) {
            return refuse(fault);
        }
        if (n > 0 && !sheets.spans(sheet, i, n)) {
            return refuse(PLACE_OUTSIDE);
        }
        if (n > 0 && !sheets.allWithin(sheet, i, n, SIGN_MOST)) {
            return refuse(NOT_SO);
        }
        for (int j = 0; j < n; j++) {
            int place = Signs.place(district, sort, now.week - j);
            now.signs.add(place, sheets.get(sheet, i + j), now.week);
        }
        return done(now.signs.count);
    }

    public int forge(int what, int n, int k) {
        if (!within(n, -100, 100) || !within(k, -100, 100)) {
            return refuse(NO_SUCH);
        }
        switch (what) {
            case 0: return forgeKind(Math.floorMod(n, KINDS), Math.floorMod(k, LINES_MOST));
            case 1: return n < 0 ? refuse(SIZE_BELOW_0) : done(n);
            case 2: return forgeShort(n, Math.floorMod(k, SHEETS_MOST));
            case 3: return forgeCopy(n, Math.floorMod(k, SHEETS_MOST));
            case 4: return forgeRow(Math.floorMod(k, LINES_MOST));
            case 5: return n == 0 ? refuse(DIVIDED_BY_0) : done(1000 / n);
            case 6: return Math.floorMod(n, 2) == 0 ? refuse(NOTHING_THERE) : done(1);
            default: return refuse(NO_SUCH);
        }
    }

    public int status() {
        return latest;
    }

    private int forgeKind(int kind, int line) {
        if (!isLine(line)) {
            return refuse(NOTHING_THERE);
        }
        int own = now.code.get(line, Code.KIND);
        return isUnder(own, kind) ? done(own) : refuse(OF_ANOTHER_SORT);
    }

    private int forgeShort(int n, int sheet) {
        int fault = sheets.faultAs(sheet, Sheets.SHORTS);
        if (fault != DONE) {
            return refuse(fault);
        }
        return sheets.spans(sheet, n, 1) ? done(sheets.get(sheet, n)) : refuse(PLACE_OUTSIDE);
    }

    private int forgeCopy(int n, int sheet) {
        int fault = sheets.faultAs(sheet, Sheets.BYTES);
        if (fault != DONE) {
            return refuse(fault);
        }
        // The row of 6 takes n numbers from place n on, so n + n is its end.
        if (n < 0 || !sheets.spans(sheet, 1, n) || n + n > 6) {
            return refuse(PLACE_OUTSIDE);
        }
        return done(sheets.sum(sheet, 1, n));
    }

    private int forgeRow(int line) {
        if (!isLine(line)) {
            return done(0);
        }
        int own = now.code.get(line, Code.KIND);
        return isUnder(own, TEST) ? done(own) : refuse(DOES_NOT_FIT);
    }

    private int done(int answer) {
        latest = DONE;
        return answer;
    }

    private int refuse(int cause) {
        latest = cause;
        return NONE;
    }

    private boolean isDistrict(int district) {
        return within(district, 0, now.land.count - 1);
    }

    private boolean isLine(int line) {
        return within(line, 0, now.code.count - 1);
    }

    private boolean canAskLoad(int district, int n, int keep) {
        return isDistrict(district) && within(n, 1, 9999) && within(keep, 0, TONS_MOST);
    }

    private static boolean isClass(int of) {
        return within(of, 0, CLASSES - 1);
    }

    private static boolean isSort(int sort) {
        return within(sort, 0, SORTS - 1);
    }

    private static boolean isKind(int kind) {
        return within(kind, 0, KINDS - 1);
    }

    /** Questions may look at weeks that are still to come. */
    private static boolean isAnyWeek(int week) {
        return within(week, 0, WEEK_MOST);
    }

    private static boolean isTest(int test) {
        return within(test, 0, 3 * 32 - 1) && within(Code.spanIn(test), 1, 4);
    }

    private static boolean isSheet(int sheet) {
        return within(sheet, 0, SHEETS_MOST - 1);
    }

    private static boolean isSheetSort(int sort) {
        return within(sort, Sheets.BYTES, Sheets.INTS);
    }

    /** Whether a kind is the other one or stands under it, by however many others. */
    private static boolean isUnder(int kind, int top) {
        int at = kind;
        for (int up = 0; up < KINDS && isKind(at); up++) {
            if (at == top) {
                return true;
            }
            at = KIND_ABOVE[at];
        }
        return false;
    }

    private static boolean within(int n, int least, int most) {
        return n >= least && n <= most;
    }

    /** All that an image keeps. */
    private static final class State {
        final Land land = new Land();
        final Signs signs = new Signs();
        final Code code = new Code();
        final Ways ways = new Ways();
        final Works works = new Works();
        final int[] opened = new int[DISTRICTS_MOST * WEEK_MOST];
        int week;

        void copyFrom(State other) {
            land.copyFrom(other.land);
            signs.copyFrom(other.signs);
            code.copyFrom(other.code);
            ways.copyFrom(other.ways);
            works.copyFrom(other.works);
            System.arraycopy(other.opened, 0, opened, 0, opened.length);
            week = other.week;
        }

        /** Answers the lack of that week; there must be a week left. */
        int passWeek() {
            int force = code.inForce(week);
            int lack = 0;
            for (int d = 0; d < land.count; d++) {
                int kinds = code.kindsOf(force & code.holding(signs, d, week, week));
                opened[d * WEEK_MOST + week] = kinds;
                lack += land.pass(d, kinds);
            }
            week++;
            return lack;
        }

        /** Passes weeks on another land, so that this one stays as it is. */
        void dream(Land other, int without, int weeks) {
            other.copyFrom(land);
            int force = code.inForce(week);
            if (without != NONE) {
                force &= ~(1 << without);
            }
            for (int w = week; w < week + weeks; w++) {
                for (int d = 0; d < other.count; d++) {
                    other.pass(d, code.kindsOf(force & code.holding(signs, d, w, w)));
                }
            }
        }
    }

    /** The districts, each a row of facts that stand as told() numbers them. */
    private static final class Land {
        static final int STORE = 0;
        static final int PRICE = 1;
        static final int PEOPLE = 2;
        static final int COINS = 5;
        static final int DEBT = 8;
        static final int LACK = 9;
        static final int DEAD = 12;
        static final int FACTS = 15;
        static final int SUMS = 5;

        final int[] facts = new int[DISTRICTS_MOST * FACTS];
        int count;
        int wage = 5;
        int paid;
        int lent;
        int earned;

        void copyFrom(Land other) {
            System.arraycopy(other.facts, 0, facts, 0, facts.length);
            count = other.count;
            wage = other.wage;
            paid = other.paid;
            lent = other.lent;
            earned = other.earned;
        }

        int add(int store, int price) {
            int district = count++;
            for (int fact = 0; fact < FACTS; fact++) {
                put(district, fact, 0);
            }
            put(district, STORE, store);
            put(district, PRICE, price);
            return district;
        }

        int get(int district, int fact) {
            return facts[district * FACTS + fact];
        }

        /** Answers what stood there before. */
        int put(int district, int fact, int n) {
            int before = get(district, fact);
            facts[district * FACTS + fact] = n;
            return before;
        }

        void more(int district, int fact, int n) {
            put(district, fact, get(district, fact) + n);
        }

        /** Sums till now, as beside() numbers them. */
        int sum(int what) {
            switch (what) {
                case 0: return sumOfClasses(LACK);
                case 1: return sumOfClasses(DEAD);
                case 2: return paid;
                case 3: return lent;
                default: return earned;
            }
        }

        int sumOfClasses(int fact) {
            int sum = 0;
            for (int d = 0; d < count; d++) {
                for (int c = 0; c < CLASSES; c++) {
                    sum += get(d, fact + c);
                }
            }
            return sum;
        }

        /** A week of one district with these kinds open; answers its lack. */
        int pass(int district, int kinds) {
            int given = isAmong(kinds, KITCHEN) ? eatForNothing(district) : 0;
            pay(district, kinds);
            lend(district, kinds);
            int lack = 0;
            for (int c = CLASSES - 1; c >= 0; c--) {
                int need = get(district, PEOPLE + c) - (c == 0 ? given : 0);
                lack += suffer(district, c, need - buy(district, c, need));
            }
            return lack;
        }

        int eatForNothing(int district) {
            int tons = Math.min(get(district, PEOPLE), get(district, STORE));
            more(district, STORE, -tons);
            return tons;
        }

        void pay(int district, int kinds) {
            for (int c = 0; c < CLASSES; c++) {
                int people = get(district, PEOPLE + c);
                int coins = isAmong(kinds, RELIEF) ? people : 0;
                if (c < 2 && isAmong(kinds, WORK)) {
                    coins += people * wage;
                } else if (c < 2 && isAmong(kinds, TEST)) {
                    coins += people * wage / 2;
                }
                // What is paid is counted whole, though a full purse holds no more.
                paid += coins;
                receive(district, c, coins);
            }
        }

        void lend(int district, int kinds) {
            if (isAmong(kinds, REMIT)) {
                put(district, DEBT, get(district, DEBT) / 2);
            }
            if (isAmong(kinds, LOAN)) {
                int coins = 3 * get(district, PEOPLE + 1);
                lent += coins;
                more(district, DEBT, coins);
                receive(district, 1, coins);
            }
        }

        void receive(int district, int of, int coins) {
            put(district, COINS + of, Math.min(COINS_MOST, get(district, COINS + of) + coins));
        }

        int buy(int district, int of, int need) {
            int price = get(district, PRICE);
            int affords = price > 0 ? get(district, COINS + of) / price : 0;
            int tons = Math.min(need, Math.min(get(district, STORE), affords));
            more(district, STORE, -tons);
            more(district, COINS + of, -tons * price);
            earned += tons * price;
            return tons;
        }

        int suffer(int district, int of, int lack) {
            int dead = lack / 10;
            more(district, LACK + of, lack);
            more(district, DEAD + of, dead);
            more(district, PEOPLE + of, -dead);
            return lack;
        }

        static boolean isAmong(int kinds, int kind) {
            return ((kinds >> kind) & 1) == 1;
        }
    }

    /** The signs; those of one place are a chain, from the latest told to the earliest. */
    private static final class Signs {
        final int[] number = new int[SIGNS_MOST];
        final int[] toldAt = new int[SIGNS_MOST];
        final int[] before = new int[SIGNS_MOST];
        // Kept as a count from 1, so that a fresh row of 0s means that none was told.
        final int[] last = new int[DISTRICTS_MOST * SORTS * (WEEK_MOST + 1)];
        int count;

        void copyFrom(Signs other) {
            System.arraycopy(other.number, 0, number, 0, number.length);
            System.arraycopy(other.toldAt, 0, toldAt, 0, toldAt.length);
            System.arraycopy(other.before, 0, before, 0, before.length);
            System.arraycopy(other.last, 0, last, 0, last.length);
            count = other.count;
        }

        static int place(int district, int sort, int week) {
            return (district * SORTS + sort) * (WEEK_MOST + 1) + week;
        }

        int add(int place, int n, int at) {
            number[count] = n;
            toldAt[count] = at;
            before[count] = last[place];
            count++;
            last[place] = count;
            return count;
        }

        int asKnown(int district, int sort, int week, int at) {
            if (week < 0) {
                return NO;
            }
            int sign = last[place(district, sort, week)];
            for (int step = 0; step < SIGNS_MOST && sign > 0; step++) {
                if (toldAt[sign - 1] <= at) {
                    return number[sign - 1];
                }
                sign = before[sign - 1];
            }
            return NO;
        }
    }

    /** The lines, each a row of facts that stand as lineTold() numbers them; sets are bits. */
    private static final class Code {
        static final int KIND = 0;
        static final int SORT = 1;
        static final int SPAN = 2;
        static final int HOW = 3;
        static final int LEAST = 4;
        static final int UNKNOWN = 5;
        static final int ON = 6;
        static final int FROM = 7;
        static final int ENDED = 8;
        static final int FACTS = 9;

        final int[] facts = new int[LINES_MOST * FACTS];
        int count;

        void copyFrom(Code other) {
            System.arraycopy(other.facts, 0, facts, 0, facts.length);
            count = other.count;
        }

        static int spanIn(int test) {
            return (test / 4) % 8;
        }

        int add(int kind, int test, int n, int week) {
            int line = count++;
            put(line, KIND, kind);
            put(line, SORT, test % 4);
            put(line, SPAN, spanIn(test));
            put(line, HOW, test / 32);
            put(line, LEAST, n);
            put(line, FROM, week);
            put(line, ENDED, NONE);
            return line;
        }

        int get(int line, int fact) {
            return facts[line * FACTS + fact];
        }

        void put(int line, int fact, int n) {
            facts[line * FACTS + fact] = n;
        }

        int inForce(int week) {
            int set = 0;
            for (int l = 0; l < count; l++) {
                int ended = get(l, ENDED);
                if (get(l, FROM) <= week && (ended == NONE || week < ended)) {
                    set |= 1 << l;
                }
            }
            return set;
        }

        /** A line hangs on a lesser one, so going up each finds its own already judged. */
        int holding(Signs signs, int district, int week, int at) {
            int set = 0;
            for (int l = 0; l < count; l++) {
                int on = get(l, ON);
                boolean hangs = on == NONE || ((set >> on) & 1) == 1;
                if (hangs && passes(l, signs, district, week, at)) {
                    set |= 1 << l;
                }
            }
            return set;
        }

        boolean passes(int line, Signs signs, int district, int week, int at) {
            int least = get(line, LEAST);
            int sum = 0;
            boolean someUnknown = false;
            boolean someHigh = false;
            for (int w = week - get(line, SPAN) + 1; w <= week; w++) {
                int n = signs.asKnown(district, get(line, SORT), w, at);
                if (n == NO) {
                    someUnknown = true;
                } else {
                    sum += n;
                    someHigh |= n >= least;
                }
            }
            boolean ifUnknown = get(line, UNKNOWN) == 1;
            switch (get(line, HOW)) {
                case 0: return someUnknown ? ifUnknown : sum >= least;
                case 1: return !someHigh && (!someUnknown || ifUnknown);
                default: return someHigh || (someUnknown && ifUnknown);
            }
        }

        int kindsOf(int lines) {
            int kinds = 0;
            for (int l = 0; l < count; l++) {
                if (((lines >> l) & 1) == 1) {
                    kinds |= 1 << get(l, KIND);
                }
            }
            return kinds;
        }

        int leastOf(int kind, int lines) {
            for (int l = 0; l < count; l++) {
                if (((lines >> l) & 1) == 1 && get(l, KIND) == kind) {
                    return l;
                }
            }
            return NONE;
        }
    }

    /** The ways between districts. */
    private static final class Ways {
        final int[] from = new int[WAYS_MOST];
        final int[] to = new int[WAYS_MOST];
        final int[] cap = new int[WAYS_MOST];
        final int[] price = new int[WAYS_MOST];
        int count;

        void copyFrom(Ways other) {
            System.arraycopy(other.from, 0, from, 0, from.length);
            System.arraycopy(other.to, 0, to, 0, to.length);
            System.arraycopy(other.cap, 0, cap, 0, cap.length);
            System.arraycopy(other.price, 0, price, 0, price.length);
            count = other.count;
        }

        int add(int start, int goal, int tons, int coins) {
            from[count] = start;
            to[count] = goal;
            cap[count] = tons;
            price[count] = coins;
            return count++;
        }

        /** The districts to which at most r ways lead, as bits. */
        int reached(int district, int r) {
            int set = 1 << district;
            for (int step = 0; step < r; step++) {
                int next = set;
                for (int w = 0; w < count; w++) {
                    if (((set >> from[w]) & 1) == 1) {
                        next |= 1 << to[w];
                    }
                }
                set = next;
            }
            return set;
        }
    }

    /** The works. */
    private static final class Works {
        final int[] in = new int[WORKS_MOST];
        final int[] hands = new int[WORKS_MOST];
        final int[] worth = new int[WORKS_MOST];
        int count;

        void copyFrom(Works other) {
            System.arraycopy(other.in, 0, in, 0, in.length);
            System.arraycopy(other.hands, 0, hands, 0, hands.length);
            System.arraycopy(other.worth, 0, worth, 0, worth.length);
            count = other.count;
        }

        int add(int district, int people, int value) {
            in[count] = district;
            hands[count] = people;
            worth[count] = value;
            return count++;
        }

        /** Going up by number, a set takes the place of another only when it is better. */
        int bestSet(int districts, int needed) {
            int near = worksIn(districts);
            int best = NONE;
            int bestWorth = 0;
            for (int set = 0; set < 1 << count; set++) {
                if ((set & ~near) != 0 || sumOver(set, hands) < needed) {
                    continue;
                }
                int value = sumOver(set, worth);
                int fewer = best == NONE ? 1 : Integer.bitCount(best) - Integer.bitCount(set);
                if (fewer > 0 || (fewer == 0 && value > bestWorth)) {
                    best = set;
                    bestWorth = value;
                }
            }
            return best;
        }

        int worksIn(int districts) {
            int set = 0;
            for (int w = 0; w < count; w++) {
                if (((districts >> in[w]) & 1) == 1) {
                    set |= 1 << w;
                }
            }
            return set;
        }

        int sumOver(int set, int[] row) {
            int sum = 0;
            for (int w = 0; w < count; w++) {
                if (((set >> w) & 1) == 1) {
                    sum += row[w];
                }
            }
            return sum;
        }
    }

    /**
     * Works out the load: a flow from a source, which gives each other district what it has above
     * what is kept, to the district that asks, always sent on along the cheapest path.
     *
     * <p>A circle of ways uses each at most once, up or down. So a way's price in units of 3 to
     * the 12th, with a power of 3 of its own for its tons (the greatest for way 0), orders loads
     * by price first and then by the tons on way 0, 1 and so on, and leaves no two alike.
     */
    private static final class Carts {
        private static final int SOURCE = DISTRICTS_MOST;
        private static final int NODES = DISTRICTS_MOST + 1;
        private static final int BACKWARD = WAYS_MOST;
        private static final int GIVEN = 2 * WAYS_MOST;
        private static final int EDGES = GIVEN + DISTRICTS_MOST;
        private static final long FAR = 1L << 60;
        private static final long[] POWERS_OF_3 = {
            177147L, 59049L, 19683L, 6561L, 2187L, 729L, 243L, 81L, 27L, 9L, 3L, 1L
        };
        private static final long PRICE_UNIT = 531441L;

        /** The load that was planned last, by ways. */
        final int[] tons = new int[WAYS_MOST];
        private final int[] tail = new int[EDGES];
        private final int[] head = new int[EDGES];
        private final int[] room = new int[EDGES];
        private final long[] cost = new long[EDGES];
        private final long[] distance = new long[NODES];
        private final int[] edgeInto = new int[NODES];

        /** Whether there is a load; it stands in tons then. */
        boolean plan(Land land, Ways ways, int goal, int n, int keep) {
            Arrays.fill(room, 0);
            layWays(ways);
            layGiven(land, goal, keep);
            int left = n;
            for (int round = 0; round < n && left > 0 && findPath(goal); round++) {
                left -= sendAlong(goal, left);
            }
            System.arraycopy(room, BACKWARD, tons, 0, WAYS_MOST);
            return left == 0;
        }

        private void layWays(Ways ways) {
            for (int w = 0; w < ways.count; w++) {
                long price = ways.price[w] * PRICE_UNIT + POWERS_OF_3[w];
                layEdge(w, ways.from[w], ways.to[w], price);
                layEdge(BACKWARD + w, ways.to[w], ways.from[w], -price);
                room[w] = ways.cap[w];
            }
        }

        private void layGiven(Land land, int goal, int keep) {
            for (int d = 0; d < land.count; d++) {
                layEdge(GIVEN + d, SOURCE, d, 0);
                room[GIVEN + d] = d == goal ? 0 : Math.max(0, land.get(d, Land.STORE) - keep);
            }
        }

        private void layEdge(int edge, int start, int goal, long price) {
            tail[edge] = start;
            head[edge] = goal;
            cost[edge] = price;
        }

        private boolean findPath(int goal) {
            Arrays.fill(distance, FAR);
            distance[SOURCE] = 0;
            boolean nearer = true;
            for (int round = 0; round < NODES && nearer; round++) {
                nearer = false;
                for (int e = 0; e < EDGES; e++) {
                    nearer |= room[e] > 0 && comeNearer(e);
                }
            }
            return distance[goal] < FAR;
        }

        private boolean comeNearer(int edge) {
            long start = distance[tail[edge]];
            if (start >= FAR || start + cost[edge] >= distance[head[edge]]) {
                return false;
            }
            distance[head[edge]] = start + cost[edge];
            edgeInto[head[edge]] = edge;
            return true;
        }

        /** Answers how many tons found room on the path that was found. */
        private int sendAlong(int goal, int most) {
            int fits = most;
            int node = goal;
            for (int step = 0; step < NODES && node != SOURCE; step++) {
                fits = Math.min(fits, room[edgeInto[node]]);
                node = tail[edgeInto[node]];
            }
            node = goal;
            for (int step = 0; step < NODES && node != SOURCE; step++) {
                int edge = edgeInto[node];
                room[edge] -= fits;
                if (edge < GIVEN) {
                    room[edge < BACKWARD ? edge + BACKWARD : edge - BACKWARD] += fits;
                }
                node = tail[edge];
            }
            return fits;
        }

        int priceOf(Ways ways) {
            int sum = 0;
            for (int w = 0; w < ways.count; w++) {
                sum += tons[w] * ways.price[w];
            }
            return sum;
        }

        /** Moves the tons of the planned load from store to store. */
        void drive(Land land, Ways ways) {
            for (int w = 0; w < ways.count; w++) {
                land.more(ways.from[w], Land.STORE, -tons[w]);
                land.more(ways.to[w], Land.STORE, tons[w]);
            }
        }
    }

    /** The acts of lines: which body runs is found from the line's kind upwards. */
    private static final class Acts {
        static final int ACTS = 4;
        private static final int OPEN = 0;
        private static final int PAY = 1;
        private static final int END = 2;
        private static final int TELL = 3;
        private static final int KEPT_MOST = 50;
        // No body of the table goes as deep: this bounds the calls whatever stands there.
        private static final int DEEPEST = 40;
        private static final int[] BODIES = {
            10, 11, 12, 13,
            0, 20, 0, 21,
            30, 31, 0, 0,
            0, 0, 40, 0,
            51, 0, 50, 0,
            0, 0, 61, 60
        };

        final int[] trace = new int[KEPT_MOST];
        int ran;
        private int number;
        private int kind;
        private int least;
        private int span;

        int run(Code code, int line, int act, int x) {
            number = line;
            kind = code.get(line, Code.KIND);
            least = code.get(line, Code.LEAST);
            span = code.get(line, Code.SPAN);
            ran = 0;
            return own(act, x, 0);
        }

        private int own(int act, int x, int depth) {
            return from(kind, act, x, depth);
        }

        private int from(int lowest, int act, int x, int depth) {
            int at = lowest;
            for (int up = 0; up < KINDS && isKind(at) && BODIES[at * ACTS + act] == 0; up++) {
                at = KIND_ABOVE[at];
            }
            if (!isKind(at) || depth >= DEEPEST) {
                return 0;
            }
            return body(BODIES[at * ACTS + act], KIND_ABOVE[at], x, depth + 1);
        }

        private int body(int body, int above, int x, int depth) {
            keepInTrace(body);
            switch (body) {
                case 10: return x + least;
                case 11: return own(OPEN, x, depth) * 2;
                case 12: return x - number;
                case 13: return own(PAY, x, depth) ^ own(END, x, depth);
                case 20: return from(above, PAY, x, depth) + span;
                case 21: return from(above, TELL, x + 1, depth);
                case 30: return from(above, OPEN, x, depth) * 3;
                case 31: return from(above, PAY, x - number, depth);
                case 40: return from(above, END, x, depth) + own(OPEN, 0, depth);
                case 50: return from(above, END, x, depth) ^ span;
                case 51: return from(above, OPEN, x, depth) - 1;
                case 60: return own(END, x, depth) - from(above, TELL, x, depth);
                case 61: return from(above, END, x * 2, depth);
                default: return 0;
            }
        }

        private void keepInTrace(int body) {
            if (ran < KEPT_MOST) {
                trace[ran] = body;
                ran++;
            }
        }
    }

    /** The sheets that the host works on, each with a row of its own that is used again. */
    private static final class Sheets {
        static final int MISSING = -1;
        static final int BYTES = 0;
        static final int SHORTS = 1;
        static final int INTS = 2;
        static final int LONGEST = 40;

        private final int[] sort = new int[SHEETS_MOST];
        private final int[] length = new int[SHEETS_MOST];
        private final int[] numbers = new int[SHEETS_MOST * LONGEST];

        Sheets() {
            Arrays.fill(sort, MISSING);
        }

        void lay(int sheet, int newSort, int n) {
            sort[sheet] = newSort;
            length[sheet] = n;
            for (int i = 0; i < LONGEST; i++) {
                put(sheet, i, 0);
            }
        }

        boolean isMissing(int sheet) {
            return sort[sheet] == MISSING;
        }

        /** The status of taking a sheet for one of a sort. */
        int faultAs(int sheet, int wanted) {
            if (isMissing(sheet)) {
                return NOTHING_THERE;
            }
            return sort[sheet] == wanted ? DONE : OF_ANOTHER_SORT;
        }

        /** Whether n numbers (0 or more) stand from place i on; taking n off cannot wrap. */
        boolean spans(int sheet, int i, int n) {
            return i >= 0 && i <= length[sheet] - n;
        }

        int get(int sheet, int i) {
            return numbers[sheet * LONGEST + i];
        }

        void put(int sheet, int i, int v) {
            numbers[sheet * LONGEST + i] = sort[sheet] == BYTES ? (byte) v : v;
        }

        int sum(int sheet, int i, int n) {
            int sum = 0;
            for (int j = i; j < i + n; j++) {
                sum += get(sheet, j);
            }
            return sum;
        }

        boolean allWithin(int sheet, int i, int n, int most) {
            for (int j = i; j < i + n; j++) {
                if (!within(get(sheet, j), -most, most)) {
                    return false;
                }
            }
            return true;
        }
    }
}
