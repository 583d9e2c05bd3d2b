/**
 * Each number of each call and question: the last one inside on either side is taken, the first one
 * outside is refused (STATUS 1, or no such), and so are the least and the greatest int.
 */
public final class NumbersTest {
    private static final Due DUE = new Due();
    private static final Edges EDGES = new Edges(DUE);
    private static final int BELOW = Integer.MIN_VALUE;
    private static final int OUT = Integer.MAX_VALUE;

    private static void range(String sentence, int least, int most, Edges.CallWith call) {
        EDGES.of(sentence);
        EDGES.range(Worlds::some, least, most, call);
    }

    private static void asked(String sentence, int least, int most, int none, Edges.CallWith call) {
        EDGES.of(sentence);
        EDGES.asked(Worlds::some, least, most, none, call);
    }

    private static void districtPeopleCoins() {
        range("2 district: STORE 0 .. 99999", 0, 99999, (x, n) -> x.district(n, 1));
        range("2 district: PRICE 1 .. 99", 1, 99, (x, n) -> x.district(0, n));
        range("3 people: DISTRICT", 0, 2, (x, n) -> x.people(n, 0, 1));
        range("3 people: CLASSES 0 .. 2", 0, 2, (x, n) -> x.people(1, n, 1));
        range("3 people: PEOPLE 0 .. 999", 0, 999, (x, n) -> x.people(1, 0, n));
        range("4 coins: DISTRICT", 0, 2, (x, n) -> x.coins(n, 0, 1));
        range("4 coins: CLASSES 0 .. 2", 0, 2, (x, n) -> x.coins(1, n, 1));
        range("4 coins: COINS 0 .. 99999", 0, 99999, (x, n) -> x.coins(1, 0, n));
        range("5 price: DISTRICT", 0, 2, (x, n) -> x.price(n, 1));
        range("5 price: PRICE 1 .. 99", 1, 99, (x, n) -> x.price(1, n));
        range("6 wage: WAGE 0 .. 99", 0, 99, (x, n) -> x.wage(n));
    }

    private static void sign() {
        range("7 sign: DISTRICT", 0, 2, (x, n) -> x.sign(n, 0, 0, 0));
        range("7 sign: SORT 0 .. 3", 0, 3, (x, n) -> x.sign(0, n, 0, 0));
        range("7 sign: of a WEEK not behind THE WEEK", 0, 2, (x, n) -> x.sign(0, 0, n, 0));
        range("7 sign: a number -99 .. 99", -99, 99, (x, n) -> x.sign(0, 0, 0, n));
        EDGES.of("7 sign: of WEEK 0 alone at WEEK 0");
        EDGES.range(x -> x.district(1, 1), 0, 0, (x, n) -> x.sign(0, 0, n, 0));
        EDGES.of("7 sign: of WEEKS till 60 at WEEK 60");
        EDGES.range(Worlds::lastWeek, 0, 60, (x, n) -> x.sign(0, 0, n, 0));
    }

    /** A test is SORT, 4 times SPAN, and 32 times HOW; whatever has another span or how is none such. */
    private static void line() {
        range("8 line: KIND 0 .. 5", 0, 5, (x, n) -> x.line(n, 4, 0, false, -1));
        range("8 line: n -400 .. 400", -400, 400, (x, n) -> x.line(0, 4, n, false, -1));
        range("8 line: a line or -1 on which it hangs", -1, 4, (x, n) -> x.line(0, 4, 0, false, n));
        EDGES.of("8 line: without lines it hangs on none");
        EDGES.range(Worlds::empty, -1, -1, (x, n) -> x.line(0, 4, 0, false, n));
        EDGES.of("8 line: SORT 0 .. 3, SPAN 1 .. 4, HOW 0 .. 2");
        Edges.CallWith told = (x, n) -> x.line(0, n, 0, n % 2 != 0, -1);
        for (int how = 0; how < 3; how++) {
            for (int test = 4; test < 20; test++) {
                FamineCode x = new FamineCode();
                EDGES.done(x, 0, told.on(x, 32 * how + test));
                EDGES.is(test % 4, x.lineTold(0, 1));
                EDGES.is(test / 4, x.lineTold(0, 2));
                EDGES.is(how, x.lineTold(0, 3));
                EDGES.is(test % 2, x.lineTold(0, 5));
            }
            for (int test : new int[] {0, 3, 20, 23, 24, 28, 31}) {
                EDGES.outside(Worlds::some, 32 * how + test, told);
            }
        }
        for (int test : new int[] {-1, -4, -28, -32, 96, 99, 100, 115, 128 + 4, 1 << 30 | 4, BELOW + 4, BELOW, OUT}) {
            EDGES.outside(Worlds::some, test, told);
        }
    }

    private static void endWayWork() {
        EDGES.of("9 end: LINE");
        EDGES.range(x -> {
            x.line(0, 4, 0, true, -1);
            x.line(1, 4, 0, true, -1);
        }, 0, 1, (x, n) -> x.end(n));
        EDGES.of("9 end: no LINES");
        EDGES.outside(Worlds::empty, 0, (x, n) -> x.end(n));
        range("11 way: DISTRICT from", 0, 2, (x, n) -> x.way(n, n == 1 ? 2 : 1, 1, 1));
        range("11 way: DISTRICT to", 0, 2, (x, n) -> x.way(n == 1 ? 2 : 1, n, 1, 1));
        range("11 way: CAP 1 .. 999", 1, 999, (x, n) -> x.way(0, 1, n, 1));
        range("11 way: PRICE 1 .. 99", 1, 99, (x, n) -> x.way(0, 1, 1, n));
        EDGES.of("11 way: from a DISTRICT to itself");
        for (int d = 0; d < 3; d++) {
            EDGES.outside(Worlds::some, d, (x, n) -> x.way(n, n, 1, 1));
        }
        range("12 work: DISTRICT", 0, 2, (x, n) -> x.work(n, 1, 1));
        range("12 work: HANDS 1 .. 999", 1, 999, (x, n) -> x.work(0, n, 1));
        range("12 work: WORTH 0 .. 99", 0, 99, (x, n) -> x.work(0, 1, n));
    }

    /** Each of districts 0 .. 2 can have 9999 tons brought, if all others keep nothing. */
    private static void rich(FamineCode x) {
        for (int d = 0; d < 3; d++) {
            x.district(60000, 1);
        }
        for (int w = 0; w < 11; w++) {
            x.way(1 + w % 2, 0, 999, 1);
        }
        x.way(0, 1, 999, 1);
    }

    private static void bring() {
        EDGES.of("13 bring: n tons 1 .. 9999");
        EDGES.range(NumbersTest::rich, 1, 9999, (x, n) -> x.bring(0, n, 0));
        EDGES.of("13 bring: DISTRICT");
        EDGES.inside(NumbersTest::rich, 0, (x, n) -> x.bring(n, 1, 0));
        EDGES.inside(NumbersTest::rich, 1, (x, n) -> x.bring(n, 1, 0));
        for (int d : new int[] {-1, 3, BELOW, OUT}) {
            EDGES.outside(NumbersTest::rich, d, (x, n) -> x.bring(n, 1, 0));
        }
        EDGES.of("13 bring: KEEP 0 .. 99999");
        EDGES.inside(NumbersTest::rich, 0, (x, n) -> x.bring(0, 1, n));
        EDGES.inside(NumbersTest::rich, 59999, (x, n) -> x.bring(0, 1, n));
        EDGES.refused(NumbersTest::rich, 3, x -> x.bring(0, 1, 60000));
        EDGES.refused(NumbersTest::rich, 3, x -> x.bring(0, 1, 99999));
        for (int keep : new int[] {-1, 100000, BELOW, OUT}) {
            EDGES.outside(NumbersTest::rich, keep, (x, n) -> x.bring(0, 1, n));
        }
    }

    private static void actSheetCell() {
        range("28 act: LINE", 0, 4, (x, n) -> x.act(n, 0, 0));
        range("28 act: ACTS 0 .. 3", 0, 3, (x, n) -> x.act(0, n, 0));
        EDGES.of("28 act: no LINES");
        EDGES.outside(Worlds::empty, 0, (x, n) -> x.act(n, 0, 0));
        range("30 sheet: SHEETS 0 .. 3", 0, 3, (x, n) -> x.sheet(n, 0, 1));
        range("30 sheet: SHEETS 0 .. 3 to be missing", 0, 3, (x, n) -> x.sheet(n, -1, 1));
        range("30 sheet: sort -1 .. 2", -1, 2, (x, n) -> x.sheet(0, n, 1));
        for (int of = 0; of < 3; of++) {
            int sort = of;
            range("30 sheet: n 0 .. 40, sort " + of, 0, 40, (x, n) -> x.sheet(0, sort, n));
        }
        EDGES.of("30 sheet: n does not matter with sort -1");
        for (int size : new int[] {-1, 41, BELOW, OUT}) {
            EDGES.inside(Worlds::some, size, (x, n) -> x.sheet(0, -1, n));
        }
        EDGES.of("31 cell: SHEETS 0 .. 3");
        for (int s = 0; s < 3; s++) {
            EDGES.inside(Worlds::some, s, (x, n) -> x.cell(n, 0, 1));
        }
        EDGES.refused(Worlds::some, 10, x -> x.cell(3, 0, 1));
        for (int s : new int[] {-1, 4, BELOW, OUT}) {
            EDGES.outside(Worlds::some, s, (x, n) -> x.cell(n, 0, 1));
        }
        for (int s = 0; s < 3; s++) {
            int sheet = s;
            range("31 cell: -1000 .. 1000, sort " + s, -1000, 1000, (x, n) -> x.cell(sheet, 0, n));
        }
    }

    private static void signs() {
        range("32 signs: DISTRICT", 0, 2, (x, n) -> x.signs(n, 0, 0, 0, 0, 1));
        range("32 signs: SORT 0 .. 3", 0, 3, (x, n) -> x.signs(0, n, 0, 0, 0, 1));
        EDGES.of("32 signs: SHEETS 0 .. 3");
        EDGES.inside(Worlds::some, 0, (x, n) -> x.signs(0, 0, n, 0, 0, 1));
        EDGES.refused(Worlds::some, 10, x -> x.signs(0, 0, 3, 0, 0, 1));
        for (int s : new int[] {-1, 4, BELOW, OUT}) {
            EDGES.outside(Worlds::some, s, (x, n) -> x.signs(0, 0, n, 0, 0, 1));
        }
        EDGES.of("32 signs: taken for one of a sort 0 .. 2");
        EDGES.inside(Worlds::some, 0, (x, n) -> x.signs(0, 0, 0, n, 0, 1));
        EDGES.inside(Worlds::some, 2, (x, n) -> x.signs(0, 0, 2, n, 0, 1));
        for (int of : new int[] {-1, 3, BELOW, OUT}) {
            EDGES.outside(Worlds::some, of, (x, n) -> x.signs(0, 0, 0, n, 0, 1));
        }
        range("32 signs: n 0 .. THE WEEK and 1", 0, 3, (x, n) -> x.signs(0, 0, 0, 0, 0, n));
        Worlds.Setup longSheet = x -> {
            x.district(1, 1);
            Worlds.weeks(x, 40);
            x.sheet(0, 0, 40);
        };
        EDGES.of("32 signs: n 0 .. 20");
        EDGES.range(longSheet, 0, 20, (x, n) -> x.signs(0, 0, 0, 0, 0, n));
        EDGES.of("32 signs: THE WEEK and 1 is 1 at WEEK 0");
        EDGES.range(x -> {
            x.district(1, 1);
            x.sheet(0, 0, 40);
        }, 0, 1, (x, n) -> x.signs(0, 0, 0, 0, 0, n));
        EDGES.of("32 signs: places");
        EDGES.inside(Worlds::some, 0, (x, n) -> x.signs(0, 0, 0, 0, n, 2));
        EDGES.inside(Worlds::some, 3, (x, n) -> x.signs(0, 0, 0, 0, n, 2));
        for (int i : new int[] {-1, 4, 5, BELOW, OUT}) {
            EDGES.refused(Worlds::some, 12, x -> x.signs(0, 0, 0, 0, i, 2));
        }
    }

    private static void forge() {
        EDGES.of("33 forge: what 0 .. 6");
        for (int what : new int[] {-1, 7, BELOW, OUT}) {
            EDGES.outside(Worlds::some, what, (x, n) -> x.forge(n, 1, 1));
        }
        EDGES.inside(Worlds::some, 0, (x, n) -> x.forge(n, 0, 0));
        EDGES.inside(Worlds::some, 6, (x, n) -> x.forge(n, 1, 1));
        for (int what = 0; what <= 6; what++) {
            EDGES.of("33 forge: n and k -100 .. 100, what " + what);
            for (int n : new int[] {-101, 101, BELOW, OUT}) {
                int which = what;
                EDGES.outside(Worlds::some, n, (x, out) -> x.forge(which, out, 0));
                EDGES.outside(Worlds::some, n, (x, out) -> x.forge(which, 1, out));
            }
        }
        EDGES.of("33 forge: n and k -100 .. 100");
        EDGES.inside(Worlds::some, -100, (x, n) -> x.forge(5, n, 0));
        EDGES.inside(Worlds::some, 100, (x, n) -> x.forge(5, n, 0));
        EDGES.inside(Worlds::some, -100, (x, n) -> x.forge(5, 1, n));
        EDGES.inside(Worlds::some, 100, (x, n) -> x.forge(5, 1, n));
    }

    private static void facts() {
        asked("16 told: DISTRICT", 0, 2, -1, (x, n) -> x.told(n, 0));
        asked("16 told: 0 .. 14", 0, 14, -1, (x, n) -> x.told(0, n));
        asked("17 known: DISTRICT", 0, 1, -1000, (x, n) -> x.known(n, 0, 0, 60));
        asked("17 known: SORT", 0, 1, -1000, (x, n) -> x.known(0, n, 0, 60));
        asked("17 known: as known at a WEEK 0 .. 60", 0, 60, -1000, (x, n) -> x.known(0, 0, 0, n));
        EDGES.of("17 known: WEEK and SORT");
        EDGES.asked(x -> {
            Worlds.lastWeek(x);
            x.sign(2, 3, 0, 1);
            x.sign(2, 0, 60, 1);
            x.sign(2, 3, 60, 1);
            x.sign(2, 0, 0, 1);
        }, 0, 60, -1000, (x, n) -> x.known(2, 3, n, 60));
        EDGES.asked(x -> {
            Worlds.lastWeek(x);
            x.sign(2, 3, 60, 1);
            x.sign(2, 0, 60, 1);
        }, 0, 3, -1000, (x, n) -> x.known(2, n, 60, 60));
        asked("21 was: DISTRICT", 0, 2, -1, (x, n) -> x.was(n, 0));
        asked("21 was: a WEEK that passed", 0, 1, -1, (x, n) -> x.was(0, n));
        EDGES.of("21 was: a WEEK that passed, at WEEK 60");
        EDGES.asked(Worlds::lastWeek, 0, 59, -1, (x, n) -> x.was(2, n));
        asked("22 lineTold: LINE", 0, 4, -1000, (x, n) -> x.lineTold(n, 0));
        asked("22 lineTold: 0 .. 8", 0, 8, -1000, (x, n) -> x.lineTold(0, n));
        asked("27 count: 0 .. 10", 0, 10, -1, (x, n) -> x.count(n));
        asked("29 trace: as many as there are", 0, 10, -1, (x, n) -> x.trace(n));
    }

    private static void judged() {
        asked("18 holds: LINE", 0, 4, -1, (x, n) -> x.holds(n, 0, 0, 0));
        asked("18 holds: DISTRICT", 0, 2, -1, (x, n) -> x.holds(0, n, 0, 0));
        asked("18 holds: WEEKS 0 .. 60", 0, 60, -1, (x, n) -> x.holds(0, 0, n, 0));
        asked("18 holds: as known at WEEKS 0 .. 60", 0, 60, -1, (x, n) -> x.holds(0, 0, 0, n));
        asked("19 open: DISTRICT", 0, 2, -1, (x, n) -> x.open(n, 0, 0));
        asked("19 open: WEEKS 0 .. 60", 0, 60, -1, (x, n) -> x.open(0, n, 0));
        asked("19 open: as known at WEEKS 0 .. 60", 0, 60, -1, (x, n) -> x.open(0, 0, n));
        Worlds.Setup allOpen = x -> {
            x.district(1, 1);
            x.district(1, 1);
            for (int kind = 0; kind < 6; kind++) {
                x.line(kind, 4, 0, true, -1);
            }
        };
        EDGES.of("20 why: KIND 0 .. 5");
        EDGES.asked(allOpen, 0, 5, -1, (x, n) -> x.why(n, 0, 0, 0));
        EDGES.of("20 why: DISTRICT");
        EDGES.asked(allOpen, 0, 1, -1, (x, n) -> x.why(0, n, 0, 0));
        EDGES.of("20 why: WEEKS 0 .. 60");
        EDGES.asked(allOpen, 0, 60, -1, (x, n) -> x.why(0, 0, n, 0));
        EDGES.of("20 why: as known at WEEKS 0 .. 60");
        EDGES.asked(allOpen, 0, 60, -1, (x, n) -> x.why(0, 0, 0, n));
    }

    private static void loadsAndWorks() {
        EDGES.of("23 load: n 1 .. 9999");
        EDGES.asked(NumbersTest::rich, 1, 9999, -1, (x, n) -> x.load(0, n, 0));
        EDGES.of("23 load: DISTRICT");
        EDGES.asked(NumbersTest::rich, 0, 1, -1, (x, n) -> x.load(n, 1, 0));
        EDGES.of("23 load: KEEP, 59999 is the most that leaves a ton of 60000");
        EDGES.asked(NumbersTest::rich, 0, 59999, -1, (x, n) -> x.load(0, 1, n));
        EDGES.of("24 loaded: n 1 .. 9999");
        EDGES.asked(NumbersTest::rich, 1, 9999, -1, (x, n) -> x.loaded(0, n, 0, 11));
        EDGES.of("24 loaded: DISTRICT");
        EDGES.asked(NumbersTest::rich, 0, 1, -1, (x, n) -> x.loaded(n, 1, 0, 0));
        EDGES.of("24 loaded: KEEP");
        EDGES.asked(NumbersTest::rich, 0, 59999, -1, (x, n) -> x.loaded(0, 1, n, 0));
        EDGES.of("24 loaded: WAY");
        EDGES.asked(NumbersTest::rich, 0, 11, -1, (x, n) -> x.loaded(0, 1, 0, n));
        asked("24 loaded: WAY, of 4", 0, 3, -1, (x, n) -> x.loaded(0, 1, 0, n));
        keepOutside();
        asked("25 fewest: DISTRICT", 0, 2, -1, (x, n) -> x.fewest(n, 1, 0));
        asked("25 fewest: r 0 .. 5", 0, 5, -1, (x, n) -> x.fewest(0, 1, n));
        EDGES.of("25 fewest: HANDS 0 .. 9999");
        for (int hands : new int[] {-1, 9999, 10000, BELOW, OUT}) {
            EDGES.is(-1, Worlds.made(Worlds::some).fewest(0, hands, 0));
        }
        EDGES.is(0, Worlds.made(Worlds::some).fewest(0, 0, 0));
        asked("26 beside: LINE or -1", -1, 4, -1, (x, n) -> x.beside(n, 1, 0));
        asked("26 beside: n 1 .. 20 WEEKS", 1, 20, -1, (x, n) -> x.beside(0, n, 0));
        asked("26 beside: what 0 .. 4", 0, 4, -1, (x, n) -> x.beside(0, 1, n));
    }

    /** With no tons above KEEP there is no load at all, so what lies outside is asked with a load. */
    private static void keepOutside() {
        EDGES.of("23 load, 24 loaded: KEEP outside 0 .. 99999");
        FamineCode x = Worlds.made(y -> {
            y.district(0, 1);
            y.district(99999, 1);
            y.way(1, 0, 5, 1);
        });
        EDGES.is(1, x.load(0, 1, 99998));
        EDGES.is(1, x.loaded(0, 1, 99998, 0));
        for (int keep : new int[] {99999, 100000, -1, BELOW, OUT}) {
            EDGES.is(-1, x.load(0, 1, keep));
            EDGES.is(-1, x.loaded(0, 1, keep, 0));
        }
    }

    public static void main(String[] args) {
        districtPeopleCoins();
        sign();
        line();
        endWayWork();
        bring();
        actSheetCell();
        signs();
        forge();
        facts();
        judged();
        loadsAndWorks();
        DUE.end();
    }
}
