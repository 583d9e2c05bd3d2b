/**
 * Each STATUS that is not 1: the room that is just not full and the one that is, what is not so,
 * what the host refuses; which of several holds; that nothing else changes.
 */
public final class RefusedTest {
    private static final Due DUE = new Due();
    private static final Edges EDGES = new Edges(DUE);
    private static final int BELOW = Integer.MIN_VALUE;
    private static final int OUT = Integer.MAX_VALUE;
    private static final int SIGNS = Worlds.SOME_SIGNS;

    private static void of(String sentence) {
        EDGES.of(sentence);
    }

    private static void refused(Worlds.Setup setup, int status, Edges.Call call) {
        EDGES.refused(setup, status, call);
    }

    /** So many calls are done and answer 0, 1, 2 and so on; the next one finds no room. */
    private static void room(Worlds.Setup setup, int least, int most, Edges.Call call) {
        FamineCode x = Worlds.made(setup);
        for (int i = least; i <= most; i++) {
            x.wage(-1);
            EDGES.done(x, i, call.on(x));
        }
        EDGES.is(-1, call.on(x));
        EDGES.is(2, x.status());
        refused(y -> {
            setup.on(y);
            for (int i = least; i <= most; i++) {
                call.on(y);
            }
        }, 2, call);
    }

    private static void rooms() {
        of("2 district: 6 at most");
        room(Worlds::empty, 0, 5, x -> x.district(7, 1));
        of("2 district: a number outside comes ahead of no room");
        refused(Worlds::full, 2, x -> x.district(0, 1));
        refused(Worlds::full, 1, x -> x.district(-1, 1));
        refused(Worlds::full, 1, x -> x.district(100000, 1));
        refused(Worlds::full, 1, x -> x.district(0, 0));
        refused(Worlds::full, 1, x -> x.district(0, 100));
        of("8 line: 12 at most");
        room(Worlds::empty, 0, 11, x -> x.line(0, 4, 0, true, -1));
        of("8 line: ended LINES count too");
        room(x -> {
            x.line(0, 4, 0, true, -1);
            x.end(0);
        }, 1, 11, x -> x.line(0, 4, 0, true, 0));
        of("8 line: a number outside comes ahead of no room");
        refused(Worlds::full, 2, x -> x.line(5, 4, 0, true, 11));
        refused(Worlds::full, 1, x -> x.line(5, 4, 0, true, 12));
        refused(Worlds::full, 1, x -> x.line(5, 4, 0, true, -2));
        refused(Worlds::full, 1, x -> x.line(6, 4, 0, true, 0));
        refused(Worlds::full, 1, x -> x.line(5, 3, 0, true, 0));
        refused(Worlds::full, 1, x -> x.line(5, 4, 401, true, 0));
        of("11 way: 12 at most");
        room(Worlds::twoStores, 0, 11, x -> x.way(0, 1, 1, 1));
        of("11 way: a number outside comes ahead of no room");
        refused(Worlds::full, 2, x -> x.way(0, 5, 999, 99));
        refused(Worlds::full, 1, x -> x.way(0, 6, 1, 1));
        refused(Worlds::full, 1, x -> x.way(-1, 0, 1, 1));
        refused(Worlds::full, 1, x -> x.way(3, 3, 1, 1));
        refused(Worlds::full, 1, x -> x.way(0, 1, 1000, 1));
        refused(Worlds::full, 1, x -> x.way(0, 1, 1, 0));
        of("12 work: 8 at most");
        room(Worlds::twoStores, 0, 7, x -> x.work(0, 1, 1));
        of("12 work: a number outside comes ahead of no room");
        refused(Worlds::full, 2, x -> x.work(0, 999, 99));
        refused(Worlds::full, 1, x -> x.work(6, 1, 1));
        refused(Worlds::full, 1, x -> x.work(0, 0, 1));
        refused(Worlds::full, 1, x -> x.work(0, 1, 100));
    }

    private static void weekAndBack() {
        of("10 week: THE WEEK is 60 at most");
        FamineCode x = Worlds.made(Worlds::some);
        for (int week = 3; week <= 60; week++) {
            x.wage(-1);
            x.week();
            EDGES.is(0, x.status());
            EDGES.is(week, x.count(1));
        }
        EDGES.is(-1, x.week());
        EDGES.is(2, x.status());
        refused(Worlds::lastWeek, 2, FamineCode::week);
        of("15 back: there is none");
        refused(Worlds::empty, 3, FamineCode::back);
        refused(Worlds::full, 3, FamineCode::back);
        of("15 back: this was done 10 times");
        FamineCode y = Worlds.made(Worlds::some);
        for (int i = 2; i <= 10; i++) {
            y.wage(-1);
            EDGES.done(y, 1, y.back());
        }
        EDGES.is(-1, y.back());
        EDGES.is(2, y.status());
        refused(Worlds::backUsedUp, 2, FamineCode::back);
        of("15 back: a new image does not give it back");
        refused(z -> {
            Worlds.backUsedUp(z);
            z.image();
        }, 2, FamineCode::back);
        of("15 back: a refused one is none of the 10");
        FamineCode z = new FamineCode();
        for (int i = 0; i < 20; i++) {
            EDGES.is(-1, z.back());
        }
        z.image();
        for (int i = 0; i < 10; i++) {
            EDGES.done(z, 0, z.back());
        }
        EDGES.is(-1, z.back());
    }

    private static void ends() {
        of("9 end: it was");
        refused(Worlds::some, 3, x -> x.end(4));
        of("9 end: it was, in this WEEK or in one ahead of it");
        for (int later = 0; later < 3; later++) {
            int weeks = later;
            refused(x -> {
                Worlds.some(x);
                x.end(0);
                Worlds.weeks(x, weeks);
                x.wage(6);
            }, 3, x -> x.end(0));
        }
        of("9 end: none such");
        refused(Worlds::some, 1, x -> x.end(5));
    }

    private static void sign() {
        of("7 sign: 200 at most");
        FamineCode x = Worlds.made(y -> y.district(1, 1));
        for (int i = 1; i <= 200; i++) {
            EDGES.done(x, i, x.sign(0, i % 4, 0, 99 - i % 199));
        }
        EDGES.is(-1, x.sign(0, 0, 0, 0));
        EDGES.is(2, x.status());
        EDGES.is(200, x.count(2));
        EDGES.is(99 - 197, x.known(0, 1, 0, 0));
        refused(Worlds::full, 2, y -> y.sign(0, 0, 19, 99));
        of("7 sign: a number outside comes ahead of no room");
        refused(Worlds::full, 1, y -> y.sign(6, 0, 0, 0));
        refused(Worlds::full, 1, y -> y.sign(0, 4, 0, 0));
        refused(Worlds::full, 1, y -> y.sign(0, 0, 20, 0));
        refused(Worlds::full, 1, y -> y.sign(0, 0, -1, 0));
        refused(Worlds::full, 1, y -> y.sign(0, 0, 0, 100));
        refused(Worlds::full, 1, y -> y.sign(0, 0, 0, -100));
    }

    private static void bring() {
        of("13 bring: the STORE would be above 99999");
        EDGES.done(Worlds::nearFullStore, 9 * 4, x -> x.bring(0, 9, 0));
        FamineCode x = Worlds.made(Worlds::nearFullStore);
        x.bring(0, 9, 0);
        EDGES.is(99999, x.told(0, 0));
        EDGES.is(21, x.told(1, 0));
        refused(Worlds::nearFullStore, 2, y -> y.bring(0, 10, 0));
        refused(Worlds::nearFullStore, 2, y -> y.bring(0, 20, 0));
        of("13 bring: no room comes ahead of there is none");
        refused(Worlds::nearFullStore, 2, y -> y.bring(0, 21, 0));
        refused(Worlds::nearFullStore, 2, y -> y.bring(0, 9999, 99999));
        refused(Worlds::nearFullStore, 3, y -> y.bring(0, 9, 22));
        of("13 bring: a number outside comes ahead of no room");
        refused(Worlds::nearFullStore, 1, y -> y.bring(0, 10000, 0));
        refused(Worlds::nearFullStore, 1, y -> y.bring(0, 10, -1));
        refused(Worlds::nearFullStore, 1, y -> y.bring(0, 10, 100000));
        of("13 bring: there is none");
        EDGES.done(Worlds::some, 180, y -> y.bring(0, 90, 0));
        refused(Worlds::some, 3, y -> y.bring(0, 151, 0));
        refused(Worlds::some, 3, y -> y.bring(1, 11, 0));
        refused(Worlds::empty, 1, y -> y.bring(0, 1, 0));
        refused(Worlds::twoStores, 3, y -> y.bring(0, 1, 0));
        of("13 bring: a number outside comes ahead of there is none");
        refused(Worlds::twoStores, 1, y -> y.bring(2, 1, 0));
        refused(Worlds::twoStores, 1, y -> y.bring(0, 0, 0));
        refused(Worlds::twoStores, 1, y -> y.bring(0, 1, -1));
    }

    private static void cell() {
        of("31 cell: nothing where a SHEET is asked");
        refused(Worlds::some, 10, x -> x.cell(3, 0, 0));
        refused(Worlds::empty, 10, x -> x.cell(0, 0, 0));
        of("31 cell: nothing there comes ahead of a place outside");
        refused(Worlds::some, 10, x -> x.cell(3, -1, 0));
        refused(Worlds::some, 10, x -> x.cell(3, OUT, 0));
        of("31 cell: a number outside comes ahead of both");
        refused(Worlds::some, 1, x -> x.cell(3, 0, 1001));
        refused(Worlds::some, 1, x -> x.cell(0, 5, 1001));
        refused(Worlds::some, 1, x -> x.cell(3, -1, -1001));
        refused(Worlds::some, 1, x -> x.cell(4, 0, 0));
        of("31 cell: a place outside");
        int[] lengths = {5, 4, 3};
        for (int s = 0; s < 3; s++) {
            int sheet = s;
            int length = lengths[s];
            EDGES.done(Worlds::some, 1, x -> x.cell(sheet, 0, 1));
            EDGES.done(Worlds::some, 1, x -> x.cell(sheet, length - 1, 1));
            for (int i : new int[] {-1, length, 40, BELOW, OUT}) {
                refused(Worlds::some, 12, x -> x.cell(sheet, i, 1));
            }
        }
        of("31 cell: a SHEET of 0 numbers has no place, one of 40 has 40");
        refused(Worlds::full, 12, x -> x.cell(2, 0, 0));
        EDGES.done(Worlds::full, 1, x -> x.cell(0, 39, 1));
        refused(Worlds::full, 12, x -> x.cell(0, 40, 0));
        of("31 cell: a SHEET that is missing from now on");
        refused(x -> {
            Worlds.some(x);
            x.sheet(1, -1, 0);
        }, 10, x -> x.cell(1, 0, 0));
    }

    /** 198 signs told at week 20; sheet 0 of bytes has 30 numbers, the last one of them is 100. */
    private static void twoLeft(FamineCode x) {
        x.district(1, 1);
        Worlds.weeks(x, 20);
        x.sheet(0, 0, 30);
        x.cell(0, 29, 100);
        for (int i = 0; i < 9; i++) {
            x.signs(0, 0, 0, 0, i, 20);
        }
        x.signs(0, 1, 0, 0, 0, 18);
    }

    private static void signs() {
        of("32 signs: not all have room");
        EDGES.done(RefusedTest::twoLeft, 200, x -> x.signs(0, 2, 0, 0, 0, 2));
        EDGES.done(RefusedTest::twoLeft, 199, x -> x.signs(0, 2, 0, 0, 0, 1));
        EDGES.done(RefusedTest::twoLeft, 198, x -> x.signs(0, 2, 0, 0, 0, 0));
        refused(RefusedTest::twoLeft, 2, x -> x.signs(0, 2, 0, 0, 0, 3));
        refused(RefusedTest::twoLeft, 2, x -> x.signs(0, 2, 0, 0, 0, 20));
        refused(Worlds::full, 2, x -> x.signs(0, 2, 0, 0, 0, 1));
        EDGES.done(Worlds::full, 200, x -> x.signs(0, 2, 0, 0, 0, 0));
        signsInOrder();
        of("32 signs: nothing there, also with n 0");
        refused(Worlds::some, 10, x -> x.signs(0, 0, 3, 0, 0, 1));
        refused(Worlds::some, 10, x -> x.signs(0, 0, 3, 1, 0, 0));
        refused(Worlds::some, 10, x -> x.signs(0, 0, 3, 2, -1, 3));
        of("32 signs: a thing of another sort, also with n 0");
        for (int sheet = 0; sheet < 3; sheet++) {
            for (int as = 0; as < 3; as++) {
                int s = sheet;
                int sort = as;
                if (s == sort) {
                    EDGES.done(Worlds::some, SIGNS + 1, x -> x.signs(0, 0, s, sort, 0, 1));
                    EDGES.done(Worlds::some, SIGNS, x -> x.signs(0, 0, s, sort, 0, 0));
                } else {
                    refused(Worlds::some, 11, x -> x.signs(0, 0, s, sort, 0, 1));
                    refused(Worlds::some, 11, x -> x.signs(0, 0, s, sort, 0, 0));
                }
            }
        }
        of("32 signs: a place outside, not with n 0");
        for (int i : new int[] {-1, 4, 5, 40, BELOW, OUT, OUT - 1}) {
            refused(Worlds::some, 12, x -> x.signs(0, 0, 0, 0, i, 2));
            EDGES.done(Worlds::some, SIGNS, x -> x.signs(0, 0, 0, 0, i, 0));
        }
        for (int i : new int[] {-1, 5, BELOW, OUT}) {
            refused(Worlds::some, 12, x -> x.signs(0, 0, 0, 0, i, 1));
        }
        EDGES.done(Worlds::some, SIGNS + 1, x -> x.signs(0, 0, 0, 0, 4, 1));
        EDGES.done(Worlds::some, SIGNS + 3, x -> x.signs(0, 0, 2, 2, 0, 3));
        refused(Worlds::some, 12, x -> x.signs(0, 0, 2, 2, 1, 3));
        signsByWeeks();
        of("32 signs: one is outside -99 .. 99, none comes then");
        for (int[] edge : new int[][] {{99, 0}, {100, 3}, {-99, 0}, {-100, 3}, {1000, 3}, {-1000, 3}}) {
            for (int place = 0; place < 3; place++) {
                int at = place;
                Worlds.Setup setup = x -> {
                    Worlds.some(x);
                    x.cell(2, at, edge[0]);
                };
                if (edge[1] == 0) {
                    EDGES.done(setup, SIGNS + 3, x -> x.signs(0, 0, 2, 2, 0, 3));
                } else {
                    refused(setup, 3, x -> x.signs(0, 0, 2, 2, 0, 3));
                    EDGES.done(setup, SIGNS, x -> x.signs(0, 0, 2, 2, at, 0));
                }
            }
        }
        of("32 signs: a number that is not among the n does not matter");
        Worlds.Setup ends = x -> {
            Worlds.some(x);
            x.cell(0, 0, 100);
            x.cell(0, 4, -100);
        };
        EDGES.done(ends, SIGNS + 3, x -> x.signs(0, 0, 0, 0, 1, 3));
        refused(ends, 3, x -> x.signs(0, 0, 0, 0, 0, 3));
        refused(ends, 3, x -> x.signs(0, 0, 0, 0, 2, 3));
    }

    private static void signsByWeeks() {
        of("32 signs: the first for THE WEEK, each next one for the WEEK ahead of that");
        FamineCode x = Worlds.made(Worlds::some);
        EDGES.done(x, SIGNS + 3, x.signs(2, 3, 1, 1, 0, 3));
        for (int w = 0; w < 3; w++) {
            EDGES.is(22 - w, x.known(2, 3, w, 2));
            EDGES.is(-1000, x.known(2, 3, w, 1));
        }
        EDGES.is(-1000, x.known(2, 3, 3, 60));
        of("32 signs: of n 0 none is told");
        FamineCode y = Worlds.made(Worlds::some);
        EDGES.done(y, SIGNS, y.signs(2, 3, 1, 1, 0, 0));
        EDGES.is(-1000, y.known(2, 3, 2, 60));
        of("32 signs: 20 WEEKS back, till WEEK 0");
        FamineCode z = Worlds.made(w -> {
            w.district(1, 1);
            Worlds.weeks(w, 19);
            w.sheet(3, 2, 40);
            for (int i = 0; i < 40; i++) {
                w.cell(3, i, i);
            }
        });
        EDGES.done(z, 20, z.signs(0, 0, 3, 2, 20, 20));
        for (int w = 0; w < 20; w++) {
            EDGES.is(39 - w, z.known(0, 0, w, 19));
        }
    }

    private static void signsInOrder() {
        of("32 signs: 1 comes first");
        refused(RefusedTest::twoLeft, 1, x -> x.signs(0, 0, 0, 0, 0, 21));
        refused(RefusedTest::twoLeft, 1, x -> x.signs(1, 0, 0, 0, 0, 3));
        refused(Worlds::some, 1, x -> x.signs(0, 0, 3, 0, 0, 4));
        refused(Worlds::some, 1, x -> x.signs(0, 0, 0, 1, 0, 4));
        refused(Worlds::some, 1, x -> x.signs(0, 0, 0, 0, 5, 4));
        refused(Worlds::some, 1, x -> x.signs(0, 0, 3, 3, 0, 0));
        refused(RefusedTest::twoLeft, 1, x -> x.signs(0, 4, 0, 0, 29, 1));
        of("32 signs: 2 comes ahead of 10, 11, 12 and 3");
        refused(RefusedTest::twoLeft, 2, x -> x.signs(0, 0, 1, 0, 0, 3));
        refused(RefusedTest::twoLeft, 2, x -> x.signs(0, 0, 0, 1, 0, 3));
        refused(RefusedTest::twoLeft, 2, x -> x.signs(0, 0, 0, 0, 28, 3));
        refused(RefusedTest::twoLeft, 2, x -> x.signs(0, 0, 0, 0, 27, 3));
        of("32 signs: 10 comes ahead of 12");
        refused(RefusedTest::twoLeft, 10, x -> x.signs(0, 0, 1, 0, 99, 2));
        of("32 signs: 11 comes ahead of 12 and 3");
        refused(RefusedTest::twoLeft, 11, x -> x.signs(0, 0, 0, 1, 29, 2));
        refused(RefusedTest::twoLeft, 11, x -> x.signs(0, 0, 0, 2, 28, 2));
        of("32 signs: 12 comes ahead of 3");
        refused(RefusedTest::twoLeft, 12, x -> x.signs(0, 0, 0, 0, 29, 2));
        refused(RefusedTest::twoLeft, 3, x -> x.signs(0, 0, 0, 0, 28, 2));
    }

    private static void forgeLines() {
        of("33 forge 0: a KIND or one under it, also by others between");
        String[] above = {"0", "01", "012", "03", "04", "045"};
        for (int kind = 0; kind < 6; kind++) {
            for (int n = -7; n <= 7; n++) {
                boolean under = above[kind].indexOf('0' + (n + 12) % 6) >= 0;
                int line = kind;
                int number = n;
                if (under) {
                    EDGES.done(Worlds::sixKinds, kind, x -> x.forge(0, number, line));
                } else {
                    refused(Worlds::sixKinds, 11, x -> x.forge(0, number, line));
                }
            }
        }
        of("33 forge 0: LINE k modulo 12, KIND n modulo 6, also below 0");
        EDGES.done(Worlds::sixKinds, 2, x -> x.forge(0, 2, -10));
        EDGES.done(Worlds::sixKinds, 2, x -> x.forge(0, -4, -94));
        EDGES.done(Worlds::sixKinds, 4, x -> x.forge(0, -98, 100));
        EDGES.done(Worlds::sixKinds, 4, x -> x.forge(0, 100, -92));
        EDGES.done(Worlds::full, 5, x -> x.forge(0, 5, -1));
        EDGES.done(Worlds::full, 5, x -> x.forge(0, -1, 11));
        of("33 forge 0: there is no such LINE");
        refused(Worlds::sixKinds, 10, x -> x.forge(0, 0, 6));
        refused(Worlds::sixKinds, 10, x -> x.forge(0, 5, 11));
        refused(Worlds::sixKinds, 10, x -> x.forge(0, 0, -1));
        refused(Worlds::empty, 10, x -> x.forge(0, 0, 0));
        EDGES.done(Worlds::sixKinds, 5, x -> x.forge(0, 5, 5));
        of("33 forge 4: a row that takes TESTS and WORKS");
        for (int kind = 0; kind < 6; kind++) {
            int line = kind;
            if (kind == 1 || kind == 2) {
                EDGES.done(Worlds::sixKinds, kind, x -> x.forge(4, 9, line - 12));
                EDGES.done(Worlds::sixKinds, kind, x -> x.forge(4, -9, line + 96));
            } else {
                refused(Worlds::sixKinds, 14, x -> x.forge(4, 0, line));
            }
        }
        of("33 forge 4: 0, there is no such");
        EDGES.done(Worlds::sixKinds, 0, x -> x.forge(4, 0, 6));
        EDGES.done(Worlds::sixKinds, 0, x -> x.forge(4, 0, -1));
        EDGES.done(Worlds::empty, 0, x -> x.forge(4, 0, 0));
        of("33 forge 0 and 4: an ended LINE is a LINE");
        EDGES.done(Worlds::some, 0, x -> x.forge(0, 0, 4));
        refused(Worlds::some, 14, x -> x.forge(4, 0, 4));
    }

    private static void forgeSheets() {
        of("33 forge 2: its number n of a SHEET of sort 1");
        EDGES.done(Worlds::some, 20, x -> x.forge(2, 0, 1));
        EDGES.done(Worlds::some, 0, x -> x.forge(2, 3, 1));
        EDGES.done(Worlds::some, 22, x -> x.forge(2, 2, -99));
        EDGES.done(Worlds::some, 22, x -> x.forge(2, 2, 97));
        refused(Worlds::some, 12, x -> x.forge(2, -1, 1));
        refused(Worlds::some, 12, x -> x.forge(2, 4, 1));
        refused(Worlds::some, 12, x -> x.forge(2, 100, 1));
        refused(Worlds::some, 11, x -> x.forge(2, 0, 0));
        refused(Worlds::some, 11, x -> x.forge(2, 0, 2));
        refused(Worlds::some, 10, x -> x.forge(2, 0, 3));
        of("33 forge 2: 10 and 11 come ahead of 12");
        refused(Worlds::some, 10, x -> x.forge(2, -1, -1));
        refused(Worlds::some, 11, x -> x.forge(2, 100, 0));
        of("33 forge 2: a SHEET of 0 numbers");
        refused(x -> {
            Worlds.some(x);
            x.sheet(1, 1, 0);
        }, 12, x -> x.forge(2, 0, 1));
        EDGES.done(Worlds::full, 0, x -> x.forge(2, 39, 1));
        refused(Worlds::full, 12, x -> x.forge(2, 40, 1));
        of("33 forge 3: n numbers of a SHEET of sort 0, from number 1 on, to place n on of a row of 6");
        int[] sums = {0, 11, 11 + 12, 11 + 12};
        for (int n = 0; n <= 3; n++) {
            int count = n;
            EDGES.done(Worlds::some, sums[n], x -> x.forge(3, count, 0));
            EDGES.done(Worlds::some, sums[n], x -> x.forge(3, count, -4));
            EDGES.done(Worlds::some, sums[n], x -> x.forge(3, count, 100));
        }
        refused(Worlds::some, 10, x -> x.forge(3, 1, -1));
        refused(Worlds::some, 11, x -> x.forge(3, 1, -2));
        refused(Worlds::some, 11, x -> x.forge(3, 1, -99));
        for (int n : new int[] {-1, -100, 4, 5, 100}) {
            refused(Worlds::some, 12, x -> x.forge(3, n, 0));
            refused(Worlds::full, 12, x -> x.forge(3, n, 0));
        }
        refused(Worlds::some, 11, x -> x.forge(3, 0, 1));
        refused(Worlds::some, 11, x -> x.forge(3, 0, 2));
        refused(Worlds::some, 10, x -> x.forge(3, 0, 3));
        of("33 forge 3: 10 and 11 come ahead of 12");
        refused(Worlds::some, 10, x -> x.forge(3, -1, 3));
        refused(Worlds::some, 11, x -> x.forge(3, 100, 1));
        of("33 forge 3: they do not stand there in both");
        for (int size = 0; size <= 5; size++) {
            int length = size;
            Worlds.Setup setup = x -> {
                Worlds.some(x);
                x.sheet(3, 0, length);
            };
            for (int n = 0; n <= 4; n++) {
                int count = n;
                if (1 + n <= size && 2 * n <= 6) {
                    EDGES.done(setup, 0, x -> x.forge(3, count, 3));
                } else {
                    refused(setup, 12, x -> x.forge(3, count, 3));
                }
            }
        }
    }

    private static void forgeRest() {
        of("33 forge 1: a row of n numbers, a size below 0");
        EDGES.done(Worlds::some, 0, x -> x.forge(1, 0, 0));
        EDGES.done(Worlds::some, 1, x -> x.forge(1, 1, -100));
        EDGES.done(Worlds::some, 100, x -> x.forge(1, 100, 100));
        refused(Worlds::some, 13, x -> x.forge(1, -1, 0));
        refused(Worlds::some, 13, x -> x.forge(1, -100, 0));
        of("33 forge 5: 1000 is divided by n, divided by 0");
        EDGES.done(Worlds::some, 1000, x -> x.forge(5, 1, 0));
        EDGES.done(Worlds::some, -1000, x -> x.forge(5, -1, 0));
        EDGES.done(Worlds::some, 10, x -> x.forge(5, 100, 0));
        EDGES.done(Worlds::some, -10, x -> x.forge(5, -100, 0));
        EDGES.done(Worlds::some, 333, x -> x.forge(5, 3, 0));
        EDGES.done(Worlds::some, -333, x -> x.forge(5, -3, 0));
        refused(Worlds::some, 15, x -> x.forge(5, 0, 0));
        refused(Worlds::some, 15, x -> x.forge(5, 0, 100));
        of("33 forge 6: n modulo 2 is 0, none is there; 1, one that is caught at once");
        for (int n : new int[] {-100, -2, 0, 2, 100}) {
            refused(Worlds::some, 10, x -> x.forge(6, n, 0));
        }
        for (int n : new int[] {-99, -1, 1, 99}) {
            EDGES.done(Worlds::some, 1, x -> x.forge(6, n, 0));
        }
        of("33 forge: a number outside comes ahead of what the host refuses");
        refused(Worlds::empty, 1, x -> x.forge(0, 0, 101));
        refused(Worlds::some, 1, x -> x.forge(1, -101, 0));
        refused(Worlds::some, 1, x -> x.forge(2, 0, 103));
        refused(Worlds::some, 1, x -> x.forge(3, 101, 0));
        refused(Worlds::sixKinds, 1, x -> x.forge(4, 0, -101));
        refused(Worlds::some, 1, x -> x.forge(5, 0, 101));
        refused(Worlds::some, 1, x -> x.forge(6, 102, 0));
    }

    private static void act() {
        of("28 act: a refused one leaves THE TRACE");
        FamineCode x = Worlds.made(Worlds::some);
        for (int[] a : new int[][] {{-1, 0}, {5, 0}, {0, -1}, {0, 4}, {OUT, BELOW}}) {
            refused(Worlds::some, 1, y -> y.act(a[0], a[1], 7));
            EDGES.is(-1, x.act(a[0], a[1], 7));
            EDGES.is(11, x.count(10));
            EDGES.is(60, x.trace(0));
            EDGES.is(12, x.trace(10));
        }
    }

    public static void main(String[] args) {
        rooms();
        weekAndBack();
        ends();
        sign();
        bring();
        cell();
        signs();
        forgeLines();
        forgeSheets();
        forgeRest();
        act();
        DUE.end();
    }
}
