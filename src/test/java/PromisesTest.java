/** Each promise by answers worked out by hand: ordinary numbers, edges, and calls that are refused. */
public final class PromisesTest {
    private static final int OUT = Integer.MAX_VALUE;
    private static final int BELOW = Integer.MIN_VALUE;
    private static final Due DUE = new Due();
    private static String promise = "";
    private static int row;

    private static void is(long want, long got) {
        row++;
        DUE.is(promise + ", row " + row, want, got);
    }

    private static void refused(FamineCode x, int status, int got) {
        is(-1, got);
        is(status, x.status());
    }

    private static void of(String name) {
        promise = name;
        row = 0;
    }

    /** Two districts with stores 100 and 500, prices 3 and 2. */
    private static FamineCode two() {
        FamineCode x = new FamineCode();
        x.district(100, 3);
        x.district(500, 2);
        return x;
    }

    /** One district with people 30, 20, 10 and the lines of these kinds, open at every sign. */
    private static FamineCode opened(int store, int price, int... kinds) {
        FamineCode x = new FamineCode();
        x.district(store, price);
        x.people(0, 0, 30);
        x.people(0, 1, 20);
        x.people(0, 2, 10);
        for (int kind : kinds) {
            x.line(kind, 4, 0, true, -1);
        }
        return x;
    }

    private static void weeks(FamineCode x, int n) {
        for (int i = 0; i < n; i++) {
            x.week();
        }
    }

    private static void newObject() {
        of("1 a new object");
        FamineCode x = new FamineCode();
        for (int what = 0; what <= 10; what++) {
            is(what == 9 ? 5 : 0, x.count(what));
        }
        is(0, x.status());
        is(-1, x.told(0, 0));
        is(-1000, x.lineTold(0, 0));
        is(-1, x.was(0, 0));
        refused(x, 3, x.back());
        refused(x, 10, x.cell(0, 0, 0));
        is(-1, FamineCode.NONE);
        is(-1000, FamineCode.NO);
    }

    private static void district() {
        of("2 district");
        FamineCode x = new FamineCode();
        refused(x, 1, x.district(-1, 1));
        refused(x, 1, x.district(100000, 1));
        refused(x, 1, x.district(0, 0));
        refused(x, 1, x.district(0, 100));
        refused(x, 1, x.district(BELOW, OUT));
        is(0, x.count(0));
        is(0, x.district(0, 1));
        is(1, x.district(99999, 99));
        for (int d = 2; d < 6; d++) {
            is(d, x.district(d, d));
        }
        refused(x, 2, x.district(1, 1));
        refused(x, 1, x.district(1, 0));
        is(6, x.count(0));
        is(99999, x.told(1, 0));
        is(99, x.told(1, 1));
        for (int what = 2; what <= 14; what++) {
            is(0, x.told(5, what));
        }
    }

    private static void people() {
        of("3 people");
        FamineCode x = two();
        is(0, x.people(1, 2, 999));
        is(999, x.people(1, 2, 0));
        is(0, x.people(1, 2, 7));
        is(0, x.status());
        refused(x, 1, x.people(-1, 0, 1));
        refused(x, 1, x.people(2, 0, 1));
        refused(x, 1, x.people(1, -1, 1));
        refused(x, 1, x.people(1, 3, 1));
        refused(x, 1, x.people(1, 2, -1));
        refused(x, 1, x.people(1, 2, 1000));
        is(7, x.told(1, 4));
        is(0, x.told(0, 4));
        is(0, x.told(1, 3));
    }

    private static void coins() {
        of("4 coins");
        FamineCode x = two();
        is(0, x.coins(0, 1, 99999));
        is(99999, x.coins(0, 1, 0));
        is(0, x.coins(0, 1, 8));
        refused(x, 1, x.coins(-1, 0, 1));
        refused(x, 1, x.coins(2, 0, 1));
        refused(x, 1, x.coins(0, -1, 1));
        refused(x, 1, x.coins(0, 3, 1));
        refused(x, 1, x.coins(0, 1, -1));
        refused(x, 1, x.coins(0, 1, 100000));
        is(8, x.told(0, 6));
        is(0, x.told(0, 5));
        is(0, x.told(1, 6));
    }

    private static void price() {
        of("5 price");
        FamineCode x = two();
        is(3, x.price(0, 99));
        is(99, x.price(0, 1));
        is(0, x.status());
        refused(x, 1, x.price(-1, 1));
        refused(x, 1, x.price(2, 1));
        refused(x, 1, x.price(0, 0));
        refused(x, 1, x.price(0, 100));
        is(1, x.told(0, 1));
        is(2, x.told(1, 1));
    }

    private static void wage() {
        of("6 wage");
        FamineCode x = opened(1000, 1, 2);
        is(5, x.wage(99));
        is(99, x.wage(0));
        refused(x, 1, x.wage(-1));
        refused(x, 1, x.wage(100));
        is(0, x.count(9));
        is(0, x.wage(7));
        x.week();
        is(7 * 50, x.count(6));
        is(7 * 30 - 30, x.told(0, 5));
    }

    private static void sign() {
        of("7 sign");
        FamineCode x = two();
        is(1, x.sign(1, 3, 0, -99));
        refused(x, 1, x.sign(1, 3, 1, 0));
        x.week();
        is(2, x.sign(1, 3, 1, 99));
        is(3, x.sign(1, 3, 0, 4));
        refused(x, 1, x.sign(-1, 0, 0, 0));
        refused(x, 1, x.sign(2, 0, 0, 0));
        refused(x, 1, x.sign(0, -1, 0, 0));
        refused(x, 1, x.sign(0, 4, 0, 0));
        refused(x, 1, x.sign(0, 0, -1, 0));
        refused(x, 1, x.sign(0, 0, 2, 0));
        refused(x, 1, x.sign(0, 0, 0, -100));
        refused(x, 1, x.sign(0, 0, 0, 100));
        is(3, x.count(2));
        is(-1000, x.known(0, 0, 0, 60));
        for (int i = 4; i <= 200; i++) {
            is(i, x.sign(0, i % 4, 0, i % 50));
        }
        refused(x, 2, x.sign(0, 0, 0, 0));
        refused(x, 1, x.sign(0, 0, 0, 100));
        is(200, x.count(2));
        is(0, x.known(0, 0, 0, 1));
        is(49, x.known(0, 3, 0, 1));
    }

    private static void line() {
        of("8 line");
        FamineCode x = two();
        is(0, x.line(0, 4, -400, false, -1));
        is(1, x.line(5, 3 + 16 + 64, 400, true, 0));
        refused(x, 1, x.line(-1, 4, 0, false, -1));
        refused(x, 1, x.line(6, 4, 0, false, -1));
        refused(x, 1, x.line(0, 0, 0, false, -1));
        refused(x, 1, x.line(0, 3, 0, false, -1));
        refused(x, 1, x.line(0, 20, 0, false, -1));
        refused(x, 1, x.line(0, 31, 0, false, -1));
        refused(x, 1, x.line(0, 84, 0, false, -1));
        refused(x, 1, x.line(0, 96, 0, false, -1));
        refused(x, 1, x.line(0, 100, 0, false, -1));
        refused(x, 1, x.line(0, -4, 0, false, -1));
        refused(x, 1, x.line(0, -28, 0, false, -1));
        refused(x, 1, x.line(0, BELOW + 4, 0, false, -1));
        refused(x, 1, x.line(0, 4, -401, false, -1));
        refused(x, 1, x.line(0, 4, 401, false, -1));
        refused(x, 1, x.line(0, 4, 0, false, -2));
        refused(x, 1, x.line(0, 4, 0, false, 2));
        is(2, x.count(3));
        for (int l = 2; l < 12; l++) {
            is(l, x.line(l % 6, 4 * (1 + l % 4), l, false, l - 1));
        }
        refused(x, 2, x.line(0, 4, 0, false, -1));
        refused(x, 1, x.line(6, 4, 0, false, -1));
        is(12, x.count(3));
    }

    private static void end() {
        of("9 end");
        FamineCode x = opened(100, 1, 0, 3, 2);
        weeks(x, 2);
        is(2, x.end(1));
        refused(x, 3, x.end(1));
        refused(x, 1, x.end(-1));
        refused(x, 1, x.end(3));
        is(1 + 8 + 4, x.open(0, 1, 2));
        is(1 + 4, x.open(0, 2, 2));
        is(1 + 4, x.open(0, 60, 2));
        x.week();
        refused(x, 3, x.end(1));
        is(2, x.lineTold(1, 8));
        is(1 + 4, x.was(0, 2));
        is(3, x.line(1, 4, 0, true, -1));
        is(3, x.end(3));
        is(0, x.open(0, 3, 3) & 2);
    }

    private static void week() {
        of("10 week");
        FamineCode x = opened(100, 2);
        x.coins(0, 2, 13);
        x.coins(0, 0, 31);
        is(4 + 20 + 15, x.week());
        is(100 - 6 - 15, x.told(0, 0));
        is(1, x.told(0, 7));
        is(1, x.told(0, 5));
        is(29, x.told(0, 2));
        is(18, x.told(0, 3));
        is(10, x.told(0, 4));
        is(15, x.told(0, 9));
        is(20, x.told(0, 10));
        is(4, x.told(0, 11));
        is(1, x.told(0, 12));
        is(2, x.told(0, 13));
        is(0, x.told(0, 14));
        is(21 * 2, x.count(8));
        is(1, x.count(1));
        weeks(x, 58);
        is(0, x.status());
        is(59, x.count(1));
        x.week();
        is(0, x.status());
        refused(x, 2, x.week());
        is(60, x.count(1));
        kitchenFirst();
        richFirst();
        everyDistrict();
    }

    /** The kitchen takes from the store before the others can buy; its grain costs nothing. */
    private static void kitchenFirst() {
        of("10 week, kitchen");
        FamineCode x = opened(33, 1, 3);
        x.coins(0, 0, 50);
        x.coins(0, 2, 50);
        is(20 + 7, x.week());
        is(0, x.told(0, 0));
        is(50, x.told(0, 5));
        is(47, x.told(0, 7));
        FamineCode y = opened(25, 1, 3);
        y.coins(0, 0, 50);
        is(5 + 20 + 10, y.week());
        is(50, y.told(0, 5));
        is(0, y.told(0, 12));
        is(1, y.told(0, 14));
    }

    private static void richFirst() {
        of("10 week, from class 2 down to 0");
        FamineCode x = opened(25, 1);
        x.coins(0, 0, 100);
        x.coins(0, 1, 100);
        x.coins(0, 2, 100);
        is(35, x.week());
        is(90, x.told(0, 7));
        is(85, x.told(0, 6));
        is(100, x.told(0, 5));
        is(30, x.told(0, 9));
        is(5, x.told(0, 10));
    }

    private static void everyDistrict() {
        of("10 week, each district by its own signs");
        FamineCode x = two();
        x.people(0, 0, 10);
        x.people(1, 0, 10);
        x.line(3, 4, 5, false, -1);
        x.sign(1, 0, 0, 5);
        is(10, x.week());
        is(0, x.was(0, 0));
        is(8, x.was(1, 0));
        is(490, x.told(1, 0));
        x.sign(0, 0, 0, 5);
        is(0, x.was(0, 0));
        is(8, x.open(0, 0, 1));
    }

    private static void payAndLend() {
        of("10 week, pay");
        FamineCode x = opened(0, 1, 1);
        x.people(0, 0, 31);
        x.people(0, 1, 21);
        x.week();
        is(155 / 2, x.told(0, 5));
        is(105 / 2, x.told(0, 6));
        is(0, x.told(0, 7));
        is(77 + 52, x.count(6));
        FamineCode both = opened(0, 1, 0, 1, 2);
        both.week();
        is(150 + 30, both.told(0, 5));
        is(100 + 20, both.told(0, 6));
        is(10, both.told(0, 7));
        is(250 + 60, both.count(6));
        of("10 week, loan and remit");
        FamineCode y = opened(0, 1, 4);
        y.week();
        is(60, y.told(0, 8));
        is(60, y.told(0, 6));
        is(60, y.count(7));
        y.people(0, 1, 5);
        y.week();
        is(75, y.told(0, 8));
        y.line(5, 4, 0, true, -1);
        y.week();
        is(37 + 15, y.told(0, 8));
        y.end(0);
        y.week();
        is(26, y.told(0, 8));
        is(60 + 15 + 15, y.count(7));
        of("10 week, a full purse");
        FamineCode z = opened(1000, 9, 2, 4);
        z.coins(0, 0, 99999);
        z.coins(0, 1, 99950);
        z.week();
        is(99999 - 270, z.told(0, 5));
        is(99999 - 180, z.told(0, 6));
        is(250, z.count(6));
        is(60, z.count(7));
        is(60, z.told(0, 8));
        is(450, z.count(8));
    }

    private static void way() {
        of("11 way");
        FamineCode x = two();
        is(0, x.way(0, 1, 1, 99));
        is(1, x.way(1, 0, 999, 1));
        refused(x, 1, x.way(-1, 0, 1, 1));
        refused(x, 1, x.way(2, 0, 1, 1));
        refused(x, 1, x.way(0, -1, 1, 1));
        refused(x, 1, x.way(0, 2, 1, 1));
        refused(x, 1, x.way(1, 1, 1, 1));
        refused(x, 1, x.way(0, 1, 0, 1));
        refused(x, 1, x.way(0, 1, 1000, 1));
        refused(x, 1, x.way(0, 1, 1, 0));
        refused(x, 1, x.way(0, 1, 1, 100));
        is(2, x.count(4));
        for (int w = 2; w < 12; w++) {
            is(w, x.way(0, 1, 1, 1));
        }
        refused(x, 2, x.way(0, 1, 1, 1));
        refused(x, 1, x.way(0, 0, 1, 1));
        is(12, x.count(4));
    }

    private static void work() {
        of("12 work");
        FamineCode x = two();
        is(0, x.work(0, 1, 0));
        is(1, x.work(1, 999, 99));
        refused(x, 1, x.work(-1, 1, 0));
        refused(x, 1, x.work(2, 1, 0));
        refused(x, 1, x.work(0, 0, 0));
        refused(x, 1, x.work(0, 1000, 0));
        refused(x, 1, x.work(0, 1, -1));
        refused(x, 1, x.work(0, 1, 100));
        is(2, x.count(5));
        for (int w = 2; w < 8; w++) {
            is(w, x.work(0, 1, 1));
        }
        refused(x, 2, x.work(0, 1, 1));
        refused(x, 1, x.work(0, 0, 1));
        is(8, x.count(5));
    }

    private static void bring() {
        of("13 bring");
        FamineCode x = two();
        x.district(99998, 1);
        x.way(1, 0, 60, 2);
        x.way(2, 1, 50, 1);
        x.way(0, 2, 50, 1);
        is(2 * 60 + 50, bringWithTransit());
        is(120, x.bring(0, 60, 440));
        is(160, x.told(0, 0));
        is(440, x.told(1, 0));
        refused(x, 3, x.bring(0, 61, 0));
        refused(x, 1, x.bring(-1, 1, 0));
        refused(x, 1, x.bring(3, 1, 0));
        refused(x, 1, x.bring(0, 0, 0));
        refused(x, 1, x.bring(0, 10000, 0));
        refused(x, 1, x.bring(0, 1, -1));
        refused(x, 1, x.bring(0, 1, 100000));
        refused(x, 2, x.bring(2, 2, 0));
        refused(x, 2, x.bring(2, 9999, 99999));
        refused(x, 3, x.bring(2, 1, 440));
        is(1, x.bring(2, 1, 159));
        is(99999, x.told(2, 0));
        is(159, x.told(0, 0));
        is(440, x.told(1, 0));
    }

    /** What comes through a district that has to keep all it has still goes on from there. */
    private static int bringWithTransit() {
        FamineCode x = two();
        x.district(999, 1);
        x.way(1, 0, 60, 2);
        x.way(2, 1, 50, 1);
        is(-1, x.load(0, 51, 500));
        is(150, x.load(0, 50, 500));
        int price = x.bring(0, 60, 490);
        is(160, x.told(0, 0));
        is(490, x.told(1, 0));
        is(949, x.told(2, 0));
        return price;
    }

    private static void image() {
        of("14 image");
        FamineCode x = full();
        x.sheet(0, 2, 3);
        x.act(0, 3, 1);
        is(1, x.image());
        is(0, x.status());
        x.people(0, 0, 1);
        x.coins(0, 0, 1);
        x.price(0, 9);
        x.wage(9);
        x.sign(0, 0, 0, 9);
        x.end(0);
        x.line(1, 4, 0, true, -1);
        x.district(1, 1);
        x.way(0, 1, 1, 1);
        x.work(0, 1, 1);
        x.cell(0, 1, 7);
        x.act(1, 0, 1);
        x.bring(0, 5, 0);
        weeks(x, 3);
        is(1, x.back());
        FamineCode y = full();
        for (int d = 0; d < 4; d++) {
            for (int what = 0; what < 15; what++) {
                is(y.told(d, what), x.told(d, what));
            }
            for (int w = 0; w < 5; w++) {
                is(y.was(d, w), x.was(d, w));
            }
        }
        for (int what = 0; what < 10; what++) {
            is(y.count(what), x.count(what));
        }
        for (int what = 0; what < 9; what++) {
            is(y.lineTold(0, what), x.lineTold(0, what));
            is(-1000, x.lineTold(2, what));
        }
        is(4, x.known(0, 0, 0, 60));
        is(2, x.count(10));
        is(51, x.trace(0));
        x.sheet(1, 1, 2);
        is(7, sheetCell(x));
        x.wage(11);
        is(1, x.image());
        x.wage(12);
        is(1, x.back());
        is(11, x.count(9));
    }

    /** Number 1 of sheet 0, told as a sign. */
    private static int sheetCell(FamineCode x) {
        is(2, x.signs(1, 2, 0, 2, 1, 1));
        return x.known(1, 2, 1, 60);
    }

    private static FamineCode full() {
        FamineCode x = two();
        x.people(0, 0, 30);
        x.people(0, 1, 20);
        x.line(0, 4, 0, true, -1);
        x.line(4, 4, 0, true, 0);
        x.sign(0, 0, 0, 4);
        x.way(1, 0, 9, 9);
        x.week();
        return x;
    }

    private static void back() {
        of("15 back");
        FamineCode x = two();
        refused(x, 3, x.back());
        x.week();
        x.image();
        for (int i = 0; i < 10; i++) {
            x.week();
            is(1, x.back());
            is(0, x.status());
        }
        refused(x, 2, x.back());
        x.image();
        refused(x, 2, x.back());
        x.week();
        is(2, x.count(1));
        of("15 back, a district that is gone");
        FamineCode y = new FamineCode();
        y.image();
        y.district(5, 5);
        y.line(0, 4, 0, true, -1);
        y.sign(0, 0, 0, 5);
        weeks(y, 2);
        is(0, y.back());
        is(-1, y.told(0, 0));
        is(-1000, y.known(0, 0, 0, 0));
        weeks(y, 1);
        y.district(6, 6);
        is(0, y.told(0, 2));
        is(0, y.was(0, 0));
        is(-1000, y.known(0, 0, 0, 1));
        y.line(0, 4, 0, false, -1);
        is(1, y.lineTold(0, 7));
    }

    private static void told() {
        of("16 told");
        FamineCode x = two();
        for (int c = 0; c < 3; c++) {
            x.people(1, c, 20 + 10 * c);
            x.coins(1, c, 1 + c);
        }
        x.line(4, 4, 0, true, -1);
        x.week();
        int[] want = {469, 2, 18, 30, 37, 1, 32, 1, 90, 20, 0, 39, 2, 0, 3};
        for (int what = 0; what < 15; what++) {
            is(want[what], x.told(1, what));
        }
        x.week();
        is(38, x.told(1, 9));
        is(3, x.told(1, 12));
        is(-1, x.told(1, -1));
        is(-1, x.told(1, 15));
        is(-1, x.told(-1, 0));
        is(-1, x.told(2, 0));
        is(-1, x.told(OUT, BELOW));
        is(0, x.status());
    }

    private static void known() {
        of("17 known");
        FamineCode x = two();
        x.sign(0, 0, 0, 3);
        x.sign(0, 0, 0, 4);
        weeks(x, 2);
        x.sign(0, 0, 0, 5);
        x.sign(0, 0, 1, 6);
        x.sign(1, 0, 0, 7);
        x.sign(0, 1, 0, 8);
        is(4, x.known(0, 0, 0, 0));
        is(4, x.known(0, 0, 0, 1));
        is(5, x.known(0, 0, 0, 2));
        is(5, x.known(0, 0, 0, 60));
        is(-1000, x.known(0, 0, 1, 1));
        is(6, x.known(0, 0, 1, 2));
        is(-1000, x.known(0, 0, 2, 2));
        is(-1000, x.known(0, 0, 60, 60));
        is(7, x.known(1, 0, 0, 2));
        is(8, x.known(0, 1, 0, 2));
        is(-1000, x.known(-1, 0, 0, 0));
        is(-1000, x.known(2, 0, 0, 0));
        is(-1000, x.known(0, -1, 0, 0));
        is(-1000, x.known(0, 4, 0, 0));
        is(-1000, x.known(0, 0, -1, 0));
        is(-1000, x.known(0, 0, 61, 0));
        is(-1000, x.known(0, 0, 0, -1));
        is(-1000, x.known(0, 0, 0, 61));
        knownAtTheEnd();
    }

    private static void knownAtTheEnd() {
        of("17 known, week 60");
        FamineCode x = two();
        for (int d = 2; d < 6; d++) {
            x.district(0, 1);
        }
        weeks(x, 60);
        for (int d = 0; d < 6; d++) {
            for (int sort = 0; sort < 4; sort++) {
                x.sign(d, sort, 0, sort);
                x.sign(d, sort, 59, 10 + d);
                x.sign(d, sort, 60, 60 + d);
            }
        }
        for (int d = 0; d < 6; d++) {
            for (int sort = 0; sort < 4; sort++) {
                is(sort, x.known(d, sort, 0, 60));
                is(-1000, x.known(d, sort, 1, 60));
                is(10 + d, x.known(d, sort, 59, 60));
                is(60 + d, x.known(d, sort, 60, 60));
                is(-1000, x.known(d, sort, 60, 59));
            }
        }
    }

    /** Lines 0 .. 5: hows 0, 1, 2 with unknown no and yes; n 10, span 2, sort 0. */
    private static FamineCode sixLines() {
        FamineCode x = two();
        for (int how = 0; how < 3; how++) {
            x.line(0, 8 + 32 * how, 10, false, -1);
            x.line(0, 8 + 32 * how, 10, true, -1);
        }
        return x;
    }

    private static int held(FamineCode x, int week) {
        int bits = 0;
        for (int l = 0; l < 6; l++) {
            bits |= x.holds(l, 0, week, 60) << l;
        }
        return bits;
    }

    private static void holds() {
        of("18 holds");
        FamineCode x = sixLines();
        is(0b101010, held(x, 0));
        x.sign(0, 0, 0, 9);
        is(0b101010, held(x, 0));
        x.sign(0, 0, 0, 10);
        is(0b110010, held(x, 0));
        x.week();
        is(0b110010, held(x, 1));
        x.sign(0, 0, 1, 0);
        is(0b110011, held(x, 1));
        x.sign(0, 0, 1, -1);
        is(0b110000, held(x, 1));
        x.sign(0, 0, 0, 9);
        is(0b001100, held(x, 1));
        x.sign(0, 0, 1, 1);
        is(0b001111, held(x, 1));
        is(0b101010, held(x, 2));
        is(0b101010, held(x, 60));
        is(0, x.holds(0, 1, 1, 60));
        is(0, x.holds(0, 0, 1, 0));
        is(1, x.holds(0, 0, 1, 1));
        is(0, x.status());
        of("18 holds, hanging");
        FamineCode y = two();
        y.line(0, 4, 5, false, -1);
        y.line(1, 5, 0, true, 0);
        y.line(2, 6, 0, true, 1);
        is(0, y.holds(2, 0, 0, 0));
        y.sign(0, 0, 0, 5);
        is(1, y.holds(2, 0, 0, 0));
        y.sign(0, 1, 0, -1);
        is(0, y.holds(2, 0, 0, 0));
        y.sign(0, 1, 0, 0);
        y.end(0);
        y.end(1);
        is(1, y.holds(1, 0, 0, 0));
        is(1, y.holds(2, 0, 0, 0));
        of("18 holds, no such");
        is(-1, y.holds(-1, 0, 0, 0));
        is(-1, y.holds(3, 0, 0, 0));
        is(-1, y.holds(0, -1, 0, 0));
        is(-1, y.holds(0, 2, 0, 0));
        is(-1, y.holds(0, 0, -1, 0));
        is(-1, y.holds(0, 0, 61, 0));
        is(-1, y.holds(0, 0, 0, -1));
        is(-1, y.holds(0, 0, 0, 61));
        spans();
    }

    private static void spans() {
        of("18 holds, spans");
        FamineCode x = two();
        for (int span = 1; span <= 4; span++) {
            x.line(0, 4 * span, 10 * span, false, -1);
        }
        for (int w = 0; w < 5; w++) {
            x.sign(0, 0, w, 10);
            for (int span = 1; span <= 4; span++) {
                is(w + 1 >= span ? 1 : 0, x.holds(span - 1, 0, w, w));
            }
            x.week();
        }
        x.sign(0, 0, 1, 9);
        is(1, x.holds(2, 0, 4, 5));
        is(0, x.holds(3, 0, 4, 5));
        is(1, x.holds(3, 0, 4, 4));
    }

    private static void open() {
        of("19 open");
        FamineCode x = opened(10, 1, 5, 3, 3);
        is(32 + 8, x.open(0, 0, 0));
        x.end(1);
        is(32 + 8, x.open(0, 0, 0));
        x.end(2);
        is(32, x.open(0, 0, 0));
        x.week();
        x.line(1, 4, 0, true, -1);
        is(32, x.open(0, 0, 60));
        is(32 + 2, x.open(0, 1, 0));
        is(32 + 2, x.open(0, 60, 60));
        x.sign(0, 0, 1, -1);
        is(32 + 2, x.open(0, 1, 0));
        is(0, x.open(0, 1, 1));
        is(-1, x.open(-1, 0, 0));
        is(-1, x.open(1, 0, 0));
        is(-1, x.open(0, -1, 0));
        is(-1, x.open(0, 61, 0));
        is(-1, x.open(0, 0, -1));
        is(-1, x.open(0, 0, 61));
    }

    private static void why() {
        of("20 why");
        FamineCode x = opened(10, 1, 3, 2, 3, 3);
        is(0, x.why(3, 0, 0, 0));
        is(1, x.why(2, 0, 0, 0));
        is(-1, x.why(0, 0, 0, 0));
        x.end(0);
        is(2, x.why(3, 0, 0, 0));
        x.week();
        x.end(2);
        is(2, x.why(3, 0, 0, 1));
        is(3, x.why(3, 0, 1, 1));
        is(-1, x.why(-1, 0, 0, 0));
        is(-1, x.why(6, 0, 0, 0));
        is(-1, x.why(3, -1, 0, 0));
        is(-1, x.why(3, 1, 0, 0));
        is(-1, x.why(3, 0, -1, 0));
        is(-1, x.why(3, 0, 61, 0));
        is(-1, x.why(3, 0, 0, -1));
        is(-1, x.why(3, 0, 0, 61));
    }

    private static void was() {
        of("21 was");
        FamineCode x = opened(10, 1, 3);
        is(-1, x.was(0, 0));
        x.week();
        x.line(2, 4, 0, true, -1);
        x.week();
        x.district(1, 1);
        x.sign(0, 0, 0, -1);
        is(8, x.was(0, 0));
        is(12, x.was(0, 1));
        is(0, x.was(1, 0));
        is(0, x.was(1, 1));
        is(-1, x.was(0, 2));
        is(-1, x.was(0, -1));
        is(-1, x.was(-1, 0));
        is(-1, x.was(2, 0));
        weeks(x, 58);
        is(12, x.was(0, 59));
        is(12, x.was(1, 59));
        is(-1, x.was(0, 60));
    }

    private static void lineTold() {
        of("22 lineTold");
        FamineCode x = two();
        x.line(0, 4, 0, false, -1);
        x.week();
        x.line(4, 3 + 4 * 2 + 32, -7, true, 0);
        int[] want = {4, 3, 2, 1, -7, 1, 0, 1, -1};
        int[] first = {0, 0, 1, 0, 0, 0, -1, 0, -1};
        for (int what = 0; what < 9; what++) {
            is(want[what], x.lineTold(1, what));
            is(first[what], x.lineTold(0, what));
        }
        x.week();
        x.end(1);
        is(2, x.lineTold(1, 8));
        is(-1, x.lineTold(0, 8));
        is(-1000, x.lineTold(-1, 0));
        is(-1000, x.lineTold(2, 0));
        is(-1000, x.lineTold(0, -1));
        is(-1000, x.lineTold(0, 9));
    }

    private static void load() {
        of("23 load, 24 loaded");
        FamineCode x = two();
        x.district(100, 1);
        x.way(1, 0, 40, 5);
        x.way(2, 0, 40, 5);
        x.way(1, 2, 10, 1);
        is(200, x.load(0, 40, 0));
        is(0, x.loaded(0, 40, 0, 0));
        is(40, x.loaded(0, 40, 0, 1));
        is(0, x.loaded(0, 40, 0, 2));
        is(400, x.load(0, 80, 0));
        is(-1, x.load(0, 81, 0));
        is(-1, x.loaded(0, 81, 0, 0));
        is(20, x.loaded(0, 40, 80, 0));
        is(20, x.loaded(0, 40, 80, 1));
        is(300, x.load(0, 60, 80));
        is(40, x.loaded(0, 60, 80, 0));
        is(-1, x.load(0, 1, 500));
        is(5, x.load(0, 1, 499));
        is(-1, x.load(1, 1, 0));
        is(10, x.load(2, 10, 99));
        is(10, x.loaded(2, 10, 99, 2));
        int[][] none = {{-1, 1, 0}, {3, 1, 0}, {0, 0, 0}, {0, 10000, 0}, {0, 1, -1}, {0, 1, 100000}};
        for (int[] a : none) {
            is(-1, x.load(a[0], a[1], a[2]));
            is(-1, x.loaded(a[0], a[1], a[2], 0));
        }
        is(-1, x.loaded(0, 40, 0, -1));
        is(-1, x.loaded(0, 40, 0, 3));
        is(100, x.told(0, 0));
        otherWayRound();
        largeLoad();
    }

    /** The second ton can only come when the first one takes another way than it took alone. */
    private static void otherWayRound() {
        of("24 loaded, the other way round");
        FamineCode x = new FamineCode();
        x.district(0, 1);
        x.district(1, 1);
        x.district(0, 1);
        x.district(1, 1);
        x.way(1, 2, 1, 1);
        x.way(2, 0, 1, 1);
        x.way(1, 0, 1, 10);
        x.way(3, 2, 1, 2);
        is(2, x.load(0, 1, 0));
        is(1, x.loaded(0, 1, 0, 0));
        is(13, x.load(0, 2, 0));
        int[] want = {0, 1, 1, 1};
        for (int w = 0; w < 4; w++) {
            is(want[w], x.loaded(0, 2, 0, w));
        }
        is(-1, x.load(0, 3, 0));
        is(13, x.bring(0, 2, 0));
        is(2, x.told(0, 0));
        is(0, x.told(3, 0));
    }

    /** Twelve ways of one price: of like loads the one with the least tons on the first ways is due. */
    private static void largeLoad() {
        of("24 loaded, large");
        FamineCode x = new FamineCode();
        x.district(0, 1);
        for (int d = 1; d < 6; d++) {
            x.district(99999, 1);
        }
        for (int w = 0; w < 12; w++) {
            x.way(1 + w % 5, 0, 999, 99);
        }
        is(9999 * 99, x.load(0, 9999, 0));
        is(0, x.loaded(0, 9999, 0, 0));
        is(9, x.loaded(0, 9999, 0, 1));
        for (int w = 2; w < 12; w++) {
            is(999, x.loaded(0, 9999, 0, w));
        }
        is(9999 * 99, x.bring(0, 9999, 0));
        is(9999, x.told(0, 0));
    }

    private static void fewest() {
        of("25 fewest");
        FamineCode x = two();
        x.district(1, 1);
        x.way(0, 1, 1, 1);
        x.way(1, 2, 1, 1);
        x.work(0, 10, 1);
        x.work(1, 30, 1);
        x.work(2, 30, 9);
        x.work(0, 10, 1);
        x.work(0, 5, 9);
        is(0, x.fewest(0, 0, 0));
        is(1, x.fewest(0, 10, 0));
        is(16, x.fewest(0, 5, 0));
        is(1 + 16, x.fewest(0, 15, 0));
        is(1 + 8, x.fewest(0, 20, 0));
        is(-1, x.fewest(0, 26, 0));
        is(2, x.fewest(0, 26, 1));
        is(4, x.fewest(0, 26, 2));
        is(2 + 4, x.fewest(0, 41, 5));
        is(1 + 2 + 4 + 8 + 16, x.fewest(0, 85, 2));
        is(-1, x.fewest(0, 86, 5));
        is(-1, x.fewest(2, 31, 5));
        is(4, x.fewest(2, 30, 5));
        is(-1, x.fewest(0, 9999, 5));
        is(-1, x.fewest(-1, 0, 0));
        is(-1, x.fewest(3, 0, 0));
        is(-1, x.fewest(0, -1, 0));
        is(-1, x.fewest(0, 10000, 0));
        is(-1, x.fewest(0, 0, -1));
        is(-1, x.fewest(0, 0, 6));
    }

    private static void beside() {
        of("26 beside");
        FamineCode x = opened(40, 1, 2, 2, 3);
        x.line(0, 4, 0, true, 2);
        x.end(0);
        is(20, x.beside(-1, 1, 0));
        is(20 + 58, x.beside(-1, 2, 0));
        is(2 + 5, x.beside(-1, 2, 1));
        is(250 + 60, x.beside(-1, 1, 2));
        is(0, x.beside(-1, 1, 3));
        is(10, x.beside(-1, 1, 4));
        is(60, x.beside(1, 1, 2));
        is(60, x.beside(1, 1, 2));
        is(40, x.beside(2, 1, 4));
        is(310, x.beside(2, 1, 2));
        is(310, x.beside(0, 1, 2));
        is(250, x.beside(3, 1, 2));
        is(40, x.told(0, 0));
        is(0, x.count(1));
        is(0, x.count(6));
        x.sign(0, 0, 0, -1);
        is(0, x.beside(-1, 1, 2));
        is(5 * 45 + 54, x.beside(-1, 2, 2));
        is(-1, x.beside(-2, 1, 0));
        is(-1, x.beside(4, 1, 0));
        is(-1, x.beside(0, 0, 0));
        is(-1, x.beside(0, 21, 0));
        is(-1, x.beside(0, 1, -1));
        is(-1, x.beside(0, 1, 5));
        is(0, x.status());
        besideTheEnd();
    }

    private static void besideTheEnd() {
        of("26 beside, near week 60");
        FamineCode x = opened(0, 1, 4);
        x.people(0, 1, 1);
        weeks(x, 57);
        is(3 * 3, x.beside(-1, 20, 3));
        is(3 * 3, x.beside(-1, 3, 3));
        is(2 * 3, x.beside(-1, 2, 3));
        is(57 * 3, x.count(7));
        weeks(x, 3);
        is(0, x.beside(-1, 20, 3));
    }

    private static void count() {
        of("27 count");
        FamineCode x = full();
        x.work(0, 1, 1);
        x.work(1, 1, 1);
        x.act(0, 1, 0);
        int[] want = {2, 1, 1, 2, 1, 2, 50, 60, 90, 5, 2};
        for (int what = 0; what <= 10; what++) {
            is(want[what], x.count(what));
        }
        is(-1, x.count(-1));
        is(-1, x.count(11));
        is(-1, x.count(OUT));
    }

    /** Lines 0 .. 5 of kinds 0 .. 5 with n 100 + kind and spans 1, 2, 3, 4, 1, 2. */
    private static FamineCode acting() {
        FamineCode x = new FamineCode();
        for (int kind = 0; kind < 6; kind++) {
            x.line(kind, 4 * (1 + kind % 4), 100 + kind, false, -1);
        }
        return x;
    }

    private static void act(FamineCode x, int line, int act, int n, int answer, int... bodies) {
        is(answer, x.act(line, act, n));
        is(0, x.status());
        is(bodies.length, x.count(10));
        for (int i = 0; i < bodies.length; i++) {
            is(bodies[i], x.trace(i));
        }
        is(-1, x.trace(bodies.length));
    }

    private static void acts() {
        of("28 act");
        FamineCode x = acting();
        act(x, 0, 0, 5, 105, 10);
        act(x, 0, 1, 5, 210, 11, 10);
        act(x, 0, 2, 5, 5, 12);
        act(x, 0, 3, 5, 210 ^ 5, 13, 11, 10, 12);
        act(x, 1, 0, 5, 106, 10);
        act(x, 1, 1, 5, 212 + 2, 20, 11, 10);
        act(x, 1, 2, 5, 4, 12);
        act(x, 1, 3, 5, (214 + 2) ^ 5, 21, 13, 20, 11, 10, 12);
        act(x, 2, 0, 5, 107 * 3, 30, 10);
        act(x, 2, 1, 5, 105 * 6 + 3, 31, 20, 11, 30, 10);
        act(x, 2, 2, 5, 3, 12);
        act(x, 2, 3, 5, (106 * 6 + 3) ^ 4, 21, 13, 31, 20, 11, 30, 10, 12);
        act(x, 3, 1, 5, 216, 11, 10);
        act(x, 3, 2, 5, 2 + 103, 40, 12, 10);
        act(x, 3, 3, 5, 216 ^ 105, 13, 11, 10, 40, 12, 10);
        act(x, 4, 0, 5, 108, 51, 10);
        act(x, 4, 2, 5, 1 ^ 1, 50, 12);
        act(x, 4, 3, 5, 216 ^ 0, 13, 11, 51, 10, 50, 12);
        act(x, 5, 0, 5, 109, 51, 10);
        act(x, 5, 1, 5, 218, 11, 51, 10);
        act(x, 5, 2, 5, 5 ^ 2, 61, 50, 12);
        act(x, 5, 3, 5, 7 - (218 ^ 7), 60, 61, 50, 12, 13, 11, 51, 10, 61, 50, 12);
        act(x, 0, 0, OUT, OUT + 100, 10);
        act(x, 2, 0, OUT, (OUT + 102) * 3, 30, 10);
        refused(x, 1, x.act(-1, 0, 0));
        refused(x, 1, x.act(6, 0, 0));
        refused(x, 1, x.act(0, -1, 0));
        refused(x, 1, x.act(0, 4, 0));
        is(2, x.count(10));
        is(30, x.trace(0));
        x.end(0);
        act(x, 0, 0, -101, -1, 10);
    }

    private static void trace() {
        of("29 trace");
        FamineCode x = acting();
        is(-1, x.trace(0));
        is(-1, x.trace(-1));
        x.act(5, 3, 0);
        is(60, x.trace(0));
        is(12, x.trace(10));
        is(-1, x.trace(11));
        is(-1, x.trace(-1));
        is(-1, x.trace(OUT));
        is(-1, x.trace(BELOW));
        x.act(0, 0, 0);
        is(10, x.trace(0));
        is(-1, x.trace(1));
    }

    private static void sheet() {
        of("30 sheet");
        FamineCode x = two();
        is(1, x.sheet(0, 0, 40));
        is(1, x.cell(0, 39, 5));
        is(1, x.sheet(0, 0, 40));
        is(0, lastSign(x, 0, 0, 39));
        x.cell(0, 0, 6);
        is(1, x.sheet(0, 0, 40));
        is(0, lastSign(x, 0, 0, 0));
        is(1, x.sheet(3, 2, 0));
        refused(x, 12, x.cell(3, 0, 0));
        is(1, x.sheet(0, -1, OUT));
        refused(x, 10, x.cell(0, 0, 0));
        is(1, x.sheet(0, -1, -5));
        is(1, x.sheet(1, 1, 1));
        refused(x, 1, x.sheet(-1, 0, 1));
        refused(x, 1, x.sheet(4, 0, 1));
        refused(x, 1, x.sheet(1, -2, 1));
        refused(x, 1, x.sheet(1, 3, 1));
        refused(x, 1, x.sheet(1, 0, -1));
        refused(x, 1, x.sheet(1, 0, 41));
        is(1, x.cell(1, 0, 1000));
        refused(x, 12, x.cell(1, 1, 0));
    }

    /** A number of a sheet, told as a sign of week 0. */
    private static int lastSign(FamineCode x, int sheet, int sort, int i) {
        x.signs(0, 0, sheet, sort, i, 1);
        is(0, x.status());
        return x.known(0, 0, 0, 60);
    }

    private static void cell() {
        of("31 cell");
        FamineCode x = two();
        x.sheet(0, 0, 3);
        x.sheet(1, 1, 3);
        x.sheet(2, 2, 3);
        int[][] cuts = {{1000, -24}, {-1000, 24}, {128, -128}, {-129, 127}, {255, -1}, {256, 0}, {99, 99}};
        for (int[] cut : cuts) {
            is(1, x.cell(0, 1, cut[0]));
            is(cut[1], byteSum(x));
        }
        is(1, x.cell(1, 0, 1000));
        is(1000, x.forge(2, 0, 1));
        is(1, x.cell(1, 2, -1000));
        is(-1000, x.forge(2, 2, 1));
        is(1, x.cell(2, 2, -99));
        is(-99, lastSign(x, 2, 2, 2));
        refused(x, 1, x.cell(-1, 0, 0));
        refused(x, 1, x.cell(4, 0, 0));
        refused(x, 1, x.cell(1, 0, 1001));
        refused(x, 1, x.cell(1, 0, -1001));
        refused(x, 1, x.cell(3, 0, 1001));
        refused(x, 1, x.cell(1, 9, 1001));
        refused(x, 10, x.cell(3, 9, 0));
        refused(x, 12, x.cell(1, -1, 0));
        refused(x, 12, x.cell(1, 3, 0));
        refused(x, 12, x.cell(1, OUT, 0));
        refused(x, 12, x.cell(1, BELOW, 0));
        is(1000, x.forge(2, 0, 1));
    }

    /** Number 1 of sheet 0, of bytes. */
    private static int byteSum(FamineCode x) {
        return x.forge(3, 1, 0);
    }

    private static void signs() {
        of("32 signs");
        FamineCode x = two();
        weeks(x, 2);
        x.sheet(0, 0, 4);
        for (int i = 0; i < 4; i++) {
            x.cell(0, i, i + 1);
        }
        is(3, x.signs(1, 2, 0, 0, 1, 3));
        is(2, x.known(1, 2, 2, 2));
        is(3, x.known(1, 2, 1, 2));
        is(4, x.known(1, 2, 0, 2));
        is(-1000, x.known(1, 2, 0, 1));
        is(3, x.signs(1, 2, 0, 0, BELOW, 0));
        is(3, x.signs(1, 2, 0, 0, OUT, 0));
        refused(x, 12, x.signs(1, 2, 0, 0, 2, 3));
        refused(x, 12, x.signs(1, 2, 0, 0, -1, 1));
        refused(x, 12, x.signs(1, 2, 0, 0, OUT, 1));
        refused(x, 11, x.signs(1, 2, 0, 1, OUT, 0));
        refused(x, 11, x.signs(1, 2, 0, 2, 9, 1));
        refused(x, 10, x.signs(1, 2, 1, 2, 9, 0));
        refused(x, 1, x.signs(-1, 2, 0, 0, 0, 1));
        refused(x, 1, x.signs(2, 2, 0, 0, 0, 1));
        refused(x, 1, x.signs(0, -1, 0, 0, 0, 1));
        refused(x, 1, x.signs(0, 4, 0, 0, 0, 1));
        refused(x, 1, x.signs(0, 0, -1, 0, 0, 1));
        refused(x, 1, x.signs(0, 0, 4, 0, 0, 1));
        refused(x, 1, x.signs(0, 0, 0, -1, 0, 1));
        refused(x, 1, x.signs(0, 0, 0, 3, 0, 1));
        refused(x, 1, x.signs(0, 0, 0, 0, 0, -1));
        refused(x, 1, x.signs(0, 0, 0, 0, 0, 4));
        x.cell(0, 1, 100);
        refused(x, 3, x.signs(0, 0, 0, 0, 0, 2));
        is(-1000, x.known(0, 0, 2, 2));
        is(4, x.signs(0, 0, 0, 0, 0, 1));
        x.cell(0, 1, -100);
        refused(x, 3, x.signs(0, 0, 0, 0, 1, 1));
        x.cell(0, 1, -99);
        is(5, x.signs(0, 0, 0, 0, 1, 1));
        signsWithoutRoom();
    }

    private static void signsWithoutRoom() {
        of("32 signs, room");
        FamineCode x = two();
        weeks(x, 20);
        x.sheet(2, 2, 40);
        for (int i = 1; i < 10; i++) {
            is(20 * i, x.signs(0, 0, 2, 2, 20, 20));
        }
        refused(x, 1, x.signs(0, 0, 2, 2, 0, 21));
        is(199, x.signs(0, 0, 2, 2, 0, 19));
        refused(x, 2, x.signs(0, 0, 2, 2, 0, 2));
        refused(x, 2, x.signs(0, 0, 1, 2, 0, 2));
        is(199, x.count(2));
        is(200, x.signs(0, 0, 2, 2, 0, 1));
        is(200, x.signs(0, 0, 2, 2, 0, 0));
        refused(x, 2, x.signs(0, 0, 2, 2, 0, 1));
        refused(x, 10, x.signs(0, 0, 1, 2, 0, 0));
    }

    private static void forge() {
        of("33 forge");
        FamineCode x = acting();
        forgeLines(x);
        is(0, x.forge(1, 0, 0));
        is(100, x.forge(1, 100, 0));
        is(0, x.forge(1, 0, 100));
        refused(x, 13, x.forge(1, -1, 0));
        refused(x, 13, x.forge(1, -100, -100));
        forgeSheets();
        of("33 forge, the rest");
        is(1000, x.forge(5, 1, 0));
        is(-333, x.forge(5, -3, 0));
        is(142, x.forge(5, 7, -100));
        refused(x, 15, x.forge(5, 0, 0));
        refused(x, 10, x.forge(6, 2, 0));
        refused(x, 10, x.forge(6, -4, 0));
        is(1, x.forge(6, 3, 0));
        is(1, x.forge(6, -3, 0));
        refused(x, 1, x.forge(-1, 1, 1));
        refused(x, 1, x.forge(7, 1, 1));
        for (int what = 0; what <= 6; what++) {
            refused(x, 1, x.forge(what, 101, 0));
            refused(x, 1, x.forge(what, -101, 0));
            refused(x, 1, x.forge(what, 1, 101));
            refused(x, 1, x.forge(what, 1, -101));
        }
    }

    private static void forgeLines(FamineCode x) {
        of("33 forge, lines");
        String[] above = {"0", "01", "012", "03", "04", "045"};
        for (int kind = 0; kind < 6; kind++) {
            for (int n = -6; n < 6; n++) {
                boolean fits = above[kind].indexOf('0' + (n + 6) % 6) >= 0;
                int got = x.forge(0, n, kind + (n < 0 ? -12 : 12));
                is(fits ? kind : -1, got);
                is(fits ? 0 : 11, x.status());
            }
            boolean row = kind == 1 || kind == 2;
            is(row ? kind : -1, x.forge(4, kind, kind - 24));
            is(row ? 0 : 14, x.status());
        }
        refused(x, 10, x.forge(0, 0, 6));
        refused(x, 10, x.forge(0, 5, -1));
        is(0, x.forge(4, 0, 6));
        is(0, x.forge(4, 0, -1));
        is(0, x.status());
    }

    private static void forgeSheets() {
        of("33 forge, sheets");
        FamineCode x = new FamineCode();
        refused(x, 10, x.forge(2, -1, 1));
        refused(x, 10, x.forge(3, -1, 1));
        x.sheet(1, 1, 3);
        x.sheet(2, 0, 8);
        x.sheet(3, 0, 0);
        x.cell(1, 2, 77);
        for (int i = 0; i < 8; i++) {
            x.cell(2, i, 1 << i);
        }
        is(77, x.forge(2, 2, 1));
        is(77, x.forge(2, 2, -3));
        refused(x, 12, x.forge(2, 3, 1));
        refused(x, 12, x.forge(2, -1, 1));
        refused(x, 11, x.forge(2, -1, 2));
        refused(x, 11, x.forge(3, -1, 1));
        is(0, x.forge(3, 0, 2));
        is(2, x.forge(3, 1, 2));
        is(2 + 4, x.forge(3, 2, 6));
        is(2 + 4 + 8, x.forge(3, 3, -2));
        refused(x, 12, x.forge(3, 4, 2));
        refused(x, 12, x.forge(3, -1, 2));
        refused(x, 12, x.forge(3, 100, 2));
        refused(x, 12, x.forge(3, 0, 3));
        x.sheet(3, 0, 3);
        is(0, x.forge(3, 2, 3));
        refused(x, 12, x.forge(3, 3, 3));
        x.sheet(3, 0, 1);
        is(0, x.forge(3, 0, 3));
        refused(x, 12, x.forge(3, 1, 3));
    }

    /** Districts, lines, ways and works as many as there may be, all asked at once. */
    private static void everyRoomFull() {
        of("limits, all rows full");
        FamineCode x = new FamineCode();
        for (int d = 0; d < 6; d++) {
            x.district(1000 + d, 1);
            x.people(d, 1, 10);
        }
        for (int l = 0; l < 12; l++) {
            x.line(l % 6, 4, 0, true, l - 1);
        }
        for (int w = 0; w < 12; w++) {
            x.way(w % 6, (w + 1) % 6, 999, 1);
        }
        for (int w = 0; w < 8; w++) {
            x.work(w % 6, 10, w);
        }
        is(63, x.open(5, 0, 0));
        is(1, x.holds(11, 5, 60, 60));
        is(5, x.why(5, 5, 0, 0));
        is(10, x.lineTold(11, 6));
        is(255, x.fewest(0, 80, 5));
        is(1 + 64, x.fewest(0, 11, 0));
        is(-1, x.fewest(0, 80, 4));
        is(1000, x.load(0, 1000, 0));
        is(1, x.loaded(0, 1000, 0, 5));
        is(999, x.loaded(0, 1000, 0, 11));
        is(6 * 60, x.beside(11, 1, 2));
        is(6 * 30, x.beside(-1, 1, 3));
        is(6 * 10, x.beside(-1, 1, 4));
        is(0, x.beside(-1, 1, 0));
        is(1, x.image());
        is(0, x.week());
        for (int d = 0; d < 6; d++) {
            is(63, x.was(d, 0));
            is(990 + d, x.told(d, 0));
            is(30, x.told(d, 8));
        }
        is(6 * 60, x.count(6));
        is(0, x.back());
        is(1005, x.told(5, 0));
    }

    private static void status() {
        of("34 status");
        FamineCode x = two();
        refused(x, 1, x.wage(-1));
        x.told(0, 0);
        x.known(0, 0, 0, 0);
        x.holds(0, 0, 0, 0);
        x.open(0, 0, 0);
        x.why(0, 0, 0, 0);
        x.was(0, 0);
        x.lineTold(0, 0);
        x.load(0, 1, 0);
        x.loaded(0, 1, 0, 0);
        x.fewest(0, 0, 0);
        x.beside(-1, 1, 0);
        x.count(0);
        x.trace(0);
        is(1, x.status());
        is(1, x.status());
        x.image();
        is(0, x.status());
        x.wage(-1);
        x.back();
        is(0, x.status());
        x.wage(-1);
        x.line(0, 4, 0, true, -1);
        is(0, x.status());
        x.wage(-1);
        x.end(0);
        is(0, x.status());
        x.wage(-1);
        x.bring(0, 1, 0);
        is(3, x.status());
        x.week();
        is(0, x.status());
    }

    public static void main(String[] args) {
        newObject();
        district();
        people();
        coins();
        price();
        wage();
        sign();
        line();
        end();
        week();
        payAndLend();
        way();
        work();
        bring();
        image();
        back();
        told();
        known();
        holds();
        open();
        why();
        was();
        lineTold();
        load();
        fewest();
        beside();
        count();
        acts();
        trace();
        sheet();
        cell();
        signs();
        forge();
        everyRoomFull();
        status();
        DUE.end();
    }
}
