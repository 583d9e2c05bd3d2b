/** The sentences of "Terms" that name an edge, one after the other, by answers worked out by hand. */
public final class TermsTest {
    private static final Due DUE = new Due();
    private static final Edges EDGES = new Edges(DUE);
    private static final int NO = -1000;
    /** Sort 0, span 1, how 0. */
    private static final int PLAIN = 4;
    private static final int RELIEF = 0;
    private static final int TEST = 1;
    private static final int WORK = 2;
    private static final int KITCHEN = 3;
    private static final int LOAN = 4;
    private static final int REMIT = 5;

    private static void of(String sentence) {
        EDGES.of(sentence);
    }

    private static void is(long want, long got) {
        EDGES.is(want, got);
    }

    private static void weeks(FamineCode x, int n) {
        Worlds.weeks(x, n);
    }

    private static FamineCode district(int store, int price) {
        return Worlds.made(x -> x.district(store, price));
    }

    /** A kind that is open at every sign. */
    private static int opens(FamineCode x, int kind) {
        return x.line(kind, PLAIN, 0, true, -1);
    }

    private static void districts() {
        of("1: a new DISTRICT has PEOPLE 0, COINS 0, DEBT 0, no LACK, no DEAD");
        FamineCode x = Worlds.made(Worlds::some);
        is(3, x.district(99999, 99));
        is(99999, x.told(3, 0));
        is(99, x.told(3, 1));
        for (int what = 2; what <= 14; what++) {
            is(0, x.told(3, what));
        }
        is(4, x.district(0, 1));
        is(0, x.told(4, 0));
        is(1, x.told(4, 1));
        of("1: THE WEEK is 0 at first");
        is(0, new FamineCode().count(1));
        of("1: CLASSES 0, 1, 2 are each their own");
        for (int c = 0; c < 3; c++) {
            FamineCode y = district(10, 1);
            is(0, y.people(0, c, 999));
            is(999, y.people(0, c, 998));
            is(0, y.coins(0, c, 99999));
            is(99999, y.coins(0, c, 99998));
            for (int other = 0; other < 3; other++) {
                is(other == c ? 998 : 0, y.told(0, 2 + other));
                is(other == c ? 99998 : 0, y.told(0, 5 + other));
            }
        }
        of("1: class 1 has a DEBT");
        FamineCode z = Worlds.opened(0, 1, LOAN);
        z.people(0, 1, 0);
        z.week();
        is(0, z.told(0, 8));
        z.people(0, 1, 1);
        z.week();
        is(3, z.told(0, 8));
    }

    private static void signs() {
        of("1: of those told at k or ahead of it, the one told last");
        FamineCode x = district(1, 1);
        weeks(x, 3);
        x.sign(0, 2, 1, 7);
        x.sign(0, 2, 1, 8);
        weeks(x, 2);
        x.sign(0, 2, 1, 6);
        int[] at = {NO, NO, NO, 8, 8, 6, 6};
        for (int k = 0; k < at.length; k++) {
            is(at[k], x.known(0, 2, 1, k));
        }
        is(6, x.known(0, 2, 1, 60));
        of("1: a number put right at the same WEEK is gone");
        x.sign(0, 2, 1, -99);
        is(-99, x.known(0, 2, 1, 5));
        is(8, x.known(0, 2, 1, 4));
        of("1: without any it is unknown");
        is(NO, x.known(0, 2, 0, 60));
        is(NO, x.known(0, 2, 2, 60));
        is(NO, x.known(0, 1, 1, 60));
        is(NO, x.known(0, 3, 1, 60));
        is(NO, x.known(0, 2, 60, 60));
        of("1: a SIGN of 0 is known");
        x.sign(0, 0, 5, 0);
        is(0, x.known(0, 0, 5, 5));
        is(NO, x.known(0, 0, 5, 4));
        of("1: each DISTRICT, SORT and WEEK has its own");
        FamineCode y = Worlds.made(z -> {
            for (int d = 0; d < 6; d++) {
                z.district(1, 1);
            }
            weeks(z, 7);
        });
        for (int i = 0; i < 192; i++) {
            y.sign(i / 32, i / 8 % 4, i % 8, i - 96);
        }
        for (int i = 0; i < 192; i++) {
            is(i - 96, y.known(i / 32, i / 8 % 4, i % 8, 7));
        }
    }

    private static void manySigns() {
        of("1: 200 told of one WEEK, the first of them ahead of all others");
        FamineCode x = district(1, 1);
        x.sign(0, 3, 0, 50);
        weeks(x, 1);
        for (int i = 0; i < 199; i++) {
            x.sign(0, 3, 0, i - 99);
        }
        is(200, x.count(2));
        is(50, x.known(0, 3, 0, 0));
        is(99, x.known(0, 3, 0, 1));
        of("1: SIGNS of WEEKS 0, 59 and 60 of all DISTRICTS and SORTS");
        FamineCode y = Worlds.made(z -> {
            for (int d = 0; d < 6; d++) {
                z.district(1, 1);
            }
            weeks(z, 60);
        });
        int[] told = {0, 59, 60};
        for (int i = 0; i < 72; i++) {
            is(i + 1, y.sign(i / 12, i / 3 % 4, told[i % 3], i));
        }
        for (int i = 0; i < 72; i++) {
            is(i, y.known(i / 12, i / 3 % 4, told[i % 3], 60));
            is(NO, y.known(i / 12, i / 3 % 4, told[i % 3], 59));
            is(NO, y.known(i / 12, i / 3 % 4, 1 + i % 3 * 28, 60));
        }
    }

    private static void force() {
        of("1: a LINE is in force from the WEEK at which it was told");
        FamineCode x = district(1, 1);
        weeks(x, 2);
        opens(x, KITCHEN);
        is(0, x.open(0, 0, 60));
        is(0, x.open(0, 1, 60));
        is(8, x.open(0, 2, 2));
        is(8, x.open(0, 60, 2));
        of("1: till the WEEK at which it is ended, without it");
        weeks(x, 2);
        x.end(0);
        is(0, x.open(0, 1, 60));
        is(8, x.open(0, 2, 2));
        is(8, x.open(0, 3, 2));
        is(0, x.open(0, 4, 2));
        is(0, x.open(0, 60, 60));
        is(-1, x.why(KITCHEN, 0, 1, 4));
        is(0, x.why(KITCHEN, 0, 3, 4));
        is(-1, x.why(KITCHEN, 0, 4, 4));
        of("1: a LINE ended at the WEEK at which it was told never is in force");
        opens(x, WORK);
        is(4, x.open(0, 4, 4));
        x.end(1);
        is(0, x.open(0, 4, 4));
        is(0, x.open(0, 5, 4));
        weeks(x, 1);
        is(0, x.was(0, 4));
        is(8, x.was(0, 3));
        of("1: at WEEK 60 too");
        FamineCode y = district(1, 1);
        weeks(y, 60);
        opens(y, RELIEF);
        is(1, y.open(0, 60, 60));
        is(0, y.open(0, 59, 60));
        is(60, y.end(0));
        is(0, y.open(0, 60, 60));
        is(60, y.lineTold(0, 7));
        is(60, y.lineTold(0, 8));
    }

    private static void hanging() {
        of("2: a LINE holds only if the one on which it hangs does");
        FamineCode x = district(1, 1);
        x.line(0, 4, 5, false, -1);
        x.line(1, 4 + 1, 5, false, 0);
        x.line(2, 4 + 2, 5, false, 1);
        for (int bits = 0; bits < 8; bits++) {
            for (int l = 0; l < 3; l++) {
                x.sign(0, l, 0, (bits >> l & 1) == 1 ? 5 : 4);
            }
            is(bits & 1, x.holds(0, 0, 0, 0));
            is((bits & 3) == 3 ? 1 : 0, x.holds(1, 0, 0, 0));
            is(bits == 7 ? 1 : 0, x.holds(2, 0, 0, 0));
        }
        of("2: whether that is in force or not");
        weeks(x, 1);
        x.end(0);
        x.end(1);
        is(1, x.holds(2, 0, 0, 0));
        is(4, x.open(0, 0, 1) & 4);
        x.line(3, 4, -99, true, 0);
        is(1, x.holds(3, 0, 0, 0));
        is(0, x.open(0, 0, 0) & 8);
        of("2: eleven LINES deep");
        FamineCode y = district(1, 1);
        y.line(0, 4, 5, false, -1);
        for (int l = 1; l < 12; l++) {
            y.line(l % 6, 4, 0, true, l - 1);
        }
        y.sign(0, 0, 0, 5);
        is(1, y.holds(11, 0, 0, 0));
        is(63, y.open(0, 0, 0));
        y.sign(0, 0, 0, 4);
        is(0, y.holds(11, 0, 0, 0));
        is(0, y.open(0, 0, 0));
    }

    /** One line of this how and n over so many signs, all of the last weeks; answers if it holds. */
    private static int holds(int how, int n, boolean unknown, Integer... signs) {
        FamineCode x = district(1, 1);
        int span = signs.length;
        x.line(0, 3 + 4 * span + 32 * how, n, unknown, -1);
        weeks(x, 10);
        for (int i = 0; i < span; i++) {
            if (signs[i] != null) {
                x.sign(0, 3, 10 - span + 1 + i, signs[i]);
            }
        }
        return x.holds(0, 0, 10, 10);
    }

    private static void tests() {
        of("2: the SIGNS of WEEKS w - SPAN + 1 .. w");
        for (int span = 1; span <= 4; span++) {
            FamineCode x = district(1, 1);
            x.line(0, 1 + 4 * span + 64, 50, false, -1);
            weeks(x, 20);
            x.sign(0, 1, 10, 50);
            for (int w = 0; w <= 60; w++) {
                is(w >= 10 && w <= 10 + span - 1 ? 1 : 0, x.holds(0, 0, w, 60));
            }
        }
        of("2: those below 0 are unknown");
        for (int span = 1; span <= 4; span++) {
            for (int how = 0; how < 3; how++) {
                FamineCode x = district(1, 1);
                x.line(0, 4 * span + 32 * how, how == 1 ? 1 : 4, false, -1);
                x.line(0, 4 * span + 32 * how, how == 1 ? 1 : 4, true, -1);
                for (int w = 0; w < 6; w++) {
                    x.sign(0, 0, w, how == 0 ? 4 : 0);
                    boolean allKnown = w + 1 >= span;
                    is(allKnown && how < 2 ? 1 : 0, x.holds(0, 0, w, w));
                    is(allKnown && how == 2 ? 0 : 1, x.holds(1, 0, w, w));
                    weeks(x, 1);
                }
            }
        }
        of("2: HOW 0, the sum is n at least");
        is(1, holds(0, 7, false, 7));
        is(0, holds(0, 7, true, 6));
        is(1, holds(0, 7, false, 99, -92));
        is(0, holds(0, 7, true, 99, -93));
        is(1, holds(0, 396, false, 99, 99, 99, 99));
        is(0, holds(0, 397, true, 99, 99, 99, 99));
        is(0, holds(0, 400, true, 99, 99, 99, 99));
        is(1, holds(0, -396, false, -99, -99, -99, -99));
        is(0, holds(0, -395, true, -99, -99, -99, -99));
        is(1, holds(0, -400, false, -99, -99, -99, -99));
        is(1, holds(0, 0, false, 0));
        of("2: HOW 0, is one unknown: as UNKNOWN tells");
        is(0, holds(0, 7, false, 99, null));
        is(1, holds(0, 7, true, -99, null));
        is(0, holds(0, -400, false, null, 99, 99, 99));
        is(1, holds(0, 400, true, -99, null, -99, -99));
        hows();
    }

    private static void hows() {
        of("2: HOW 1, all are below n");
        is(1, holds(1, 7, false, 6));
        is(0, holds(1, 7, true, 7));
        is(1, holds(1, 7, false, 6, 6, 6, 6));
        is(0, holds(1, 7, true, 7, 6, 6, 6));
        is(0, holds(1, 7, true, 6, 6, 7, 6));
        is(0, holds(1, 7, true, 6, 6, 6, 7));
        is(1, holds(1, 100, false, 99, 99));
        is(0, holds(1, -99, true, -99));
        is(1, holds(1, -98, false, -99));
        is(0, holds(1, -400, true, -99));
        of("2: HOW 1, is one that is known not: no; else as UNKNOWN tells");
        is(0, holds(1, 7, true, 7, null));
        is(0, holds(1, 7, true, null, 7));
        is(0, holds(1, 7, false, 6, null));
        is(1, holds(1, 7, true, 6, null));
        is(1, holds(1, 7, true, (Integer) null));
        is(0, holds(1, 7, false, (Integer) null));
        of("2: HOW 2, some one is n at least");
        is(1, holds(2, 7, false, 7));
        is(0, holds(2, 7, true, 6));
        is(1, holds(2, 7, false, 7, 6, 6, 6));
        is(1, holds(2, 7, false, 6, 6, 6, 7));
        is(0, holds(2, 7, true, 6, 6, 6, 6));
        is(0, holds(2, 100, true, 99, 99));
        is(1, holds(2, -99, false, -99));
        of("2: HOW 2, is one that is known: yes; else as UNKNOWN tells");
        is(1, holds(2, 7, false, 7, null));
        is(1, holds(2, 7, false, null, 7));
        is(1, holds(2, 7, true, 6, null));
        is(0, holds(2, 7, false, 6, null));
        is(1, holds(2, 7, true, (Integer) null));
        is(0, holds(2, 7, false, (Integer) null));
    }

    private static void openAndWhy() {
        of("2: a KIND is OPEN if some LINE of this KIND holds");
        for (int kind = 0; kind < 6; kind++) {
            FamineCode x = district(1, 1);
            is(0, x.open(0, 0, 0));
            x.line(kind, 4, 5, false, -1);
            opens(x, kind);
            x.line(kind, 4, 5, false, -1);
            is(1 << kind, x.open(0, 0, 0));
            of("2: WHY, the least such LINE, KIND " + kind);
            is(1, x.why(kind, 0, 0, 0));
            x.sign(0, 0, 0, 5);
            is(0, x.why(kind, 0, 0, 0));
            x.sign(0, 0, 0, -1);
            is(-1, x.why(kind, 0, 0, 0));
            is(0, x.open(0, 0, 0));
            for (int other = 0; other < 6; other++) {
                is(-1, x.why(other, 0, 0, 0));
            }
        }
        of("2: the least LINE is one in force");
        FamineCode y = district(1, 1);
        for (int l = 0; l < 12; l++) {
            opens(y, LOAN);
        }
        for (int l = 0; l < 12; l++) {
            is(l, y.why(LOAN, 0, 0, 0));
            y.end(l);
        }
        is(-1, y.why(LOAN, 0, 0, 0));
    }

    private static void kitchen() {
        of("3a: class 0 has as much of its NEED as the STORE has, for nothing");
        for (int store = 28; store <= 32; store++) {
            FamineCode x = Worlds.opened(store, 1, KITCHEN);
            x.people(0, 1, 0);
            x.people(0, 2, 0);
            x.coins(0, 0, 9);
            is(Math.max(0, 30 - store), x.week());
            is(Math.max(0, store - 30), x.told(0, 0));
            is(9, x.told(0, 5));
            is(0, x.count(8));
        }
        of("3a: an empty STORE has nothing");
        FamineCode x = Worlds.opened(0, 1, KITCHEN);
        is(60, x.week());
        is(0, x.told(0, 0));
        of("3a: it comes ahead of what the others buy");
        FamineCode y = Worlds.opened(31, 1, KITCHEN);
        y.coins(0, 2, 99);
        y.coins(0, 1, 99);
        is(20 + 9, y.week());
        is(98, y.told(0, 7));
        is(99, y.told(0, 6));
    }

    private static void pay() {
        of("3b: WORK pays classes 0 and 1 WAGE, class 2 nothing");
        int[] wages = {0, 1, 5, 99};
        for (int wage : wages) {
            FamineCode x = Worlds.opened(0, 1, WORK);
            x.wage(wage);
            x.week();
            is(30 * wage, x.told(0, 5));
            is(20 * wage, x.told(0, 6));
            is(0, x.told(0, 7));
            is(50 * wage, x.count(6));
        }
        of("3b: WAGE is 5 at first");
        FamineCode first = Worlds.opened(0, 1, WORK);
        first.week();
        is(150, first.told(0, 5));
        of("3b: TEST without WORK pays half, cut by class");
        int[][] halves = {{1, 1, 5, 2, 2}, {1, 2, 5, 2, 5}, {3, 5, 1, 1, 2}, {1, 0, 1, 0, 0}, {7, 7, 99, 346, 346}, {4, 6, 5, 10, 15}};
        for (int[] h : halves) {
            FamineCode x = Worlds.opened(0, 1, TEST);
            x.people(0, 0, h[0]);
            x.people(0, 1, h[1]);
            x.wage(h[2]);
            x.week();
            is(h[3], x.told(0, 5));
            is(h[4], x.told(0, 6));
            is(0, x.told(0, 7));
            is(h[3] + h[4], x.count(6));
        }
        of("3b: with WORK, TEST changes nothing");
        FamineCode both = Worlds.opened(0, 1, TEST, WORK);
        both.week();
        is(250, both.count(6));
        of("3b: RELIEF pays each class 1 coin");
        FamineCode relief = Worlds.opened(0, 1, RELIEF);
        relief.week();
        is(30, relief.told(0, 5));
        is(20, relief.told(0, 6));
        is(10, relief.told(0, 7));
        is(60, relief.count(6));
        of("3b: without all three nothing is paid");
        FamineCode none = Worlds.opened(0, 1, KITCHEN, LOAN, REMIT);
        none.week();
        is(0, none.count(6));
        of("3b: what is paid can be spent in the same WEEK");
        FamineCode spent = Worlds.opened(60, 1, RELIEF);
        is(0, spent.week());
        is(60, spent.count(8));
    }

    private static void lend() {
        of("3c: REMIT, the DEBT is halved (cut)");
        FamineCode x = Worlds.opened(0, 1, LOAN);
        x.people(0, 1, 9);
        x.week();
        is(27, x.told(0, 8));
        x.end(0);
        opens(x, REMIT);
        for (int debt : new int[] {13, 6, 3, 1, 0, 0}) {
            x.week();
            is(debt, x.told(0, 8));
        }
        is(27, x.count(7));
        is(27, x.told(0, 6));
        of("3c: LOAN, class 1 gets 3 coins for each, its DEBT is as much more");
        FamineCode y = Worlds.opened(0, 1, LOAN);
        y.people(0, 1, 0);
        y.week();
        is(0, y.count(7));
        y.people(0, 1, 999);
        y.week();
        is(2997, y.told(0, 8));
        is(2997, y.told(0, 6));
        is(0, y.told(0, 5));
        is(0, y.told(0, 7));
        is(2997, y.count(7));
        is(0, y.count(6));
        of("3c: REMIT is ahead of LOAN");
        opens(y, REMIT);
        y.people(0, 1, 1);
        y.week();
        is(2997 / 2 + 3, y.told(0, 8));
        of("3c: a loan can be spent in the same WEEK");
        FamineCode z = Worlds.opened(60, 3, LOAN);
        is(40, z.week());
        is(60, z.count(8));
        is(0, z.told(0, 6));
        of("3c: DEBT goes on above 99999");
        FamineCode deep = Worlds.opened(0, 1, LOAN);
        for (int w = 1; w <= 60; w++) {
            deep.people(0, 1, 999);
            deep.week();
            is(w * 2997, deep.told(0, 8));
            is(Math.min(99999, w * 2997), deep.told(0, 6));
        }
    }

    private static void buy() {
        of("3d: as many as its COINS pay at PRICE");
        int[][] rows = {{0, 3, 0}, {2, 3, 0}, {3, 3, 1}, {5, 3, 1}, {6, 3, 2}, {29, 3, 9}, {30, 3, 10}, {99999, 3, 10}, {98, 99, 0}, {99, 99, 1}};
        for (int[] r : rows) {
            for (int c = 0; c < 3; c++) {
                FamineCode x = district(1000, r[1]);
                x.people(0, c, 10);
                x.coins(0, c, r[0]);
                is(10 - r[2], x.week());
                is(1000 - r[2], x.told(0, 0));
                is(r[0] - r[1] * r[2], x.told(0, 5 + c));
                is(r[1] * r[2], x.count(8));
            }
        }
        of("3d: as many as the STORE has");
        for (int store = 0; store <= 11; store++) {
            FamineCode x = district(store, 2);
            x.people(0, 1, 10);
            x.coins(0, 1, 50);
            is(Math.max(0, 10 - store), x.week());
            is(Math.max(0, store - 10), x.told(0, 0));
        }
        of("3d: from 2 down to 0");
        int[][] lacks = {{0, 3, 2, 1}, {1, 3, 2, 0}, {2, 3, 1, 0}, {3, 3, 0, 0}, {5, 1, 0, 0}, {6, 0, 0, 0}};
        for (int[] l : lacks) {
            FamineCode x = district(l[0], 1);
            for (int c = 0; c < 3; c++) {
                x.people(0, c, 3 - c);
                x.coins(0, c, 9);
            }
            is(l[1] + l[2] + l[3], x.week());
            for (int c = 0; c < 3; c++) {
                is(l[1 + c], x.told(0, 9 + c));
            }
        }
        of("3d: of what is left of its NEED: the kitchen's tons are not bought again");
        FamineCode fed = Worlds.opened(100, 1, KITCHEN);
        fed.coins(0, 0, 50);
        fed.people(0, 1, 0);
        fed.people(0, 2, 0);
        fed.week();
        is(70, fed.told(0, 0));
        is(50, fed.told(0, 5));
    }

    private static void die() {
        of("3e: a tenth (cut) of the LACK is DEAD");
        int[] people = {0, 1, 9, 10, 11, 19, 20, 99, 100, 999};
        int[] dead = {0, 0, 0, 1, 1, 1, 2, 9, 10, 99};
        for (int i = 0; i < people.length; i++) {
            for (int c = 0; c < 3; c++) {
                FamineCode x = district(0, 1);
                x.people(0, c, people[i]);
                is(people[i], x.week());
                is(people[i], x.told(0, 9 + c));
                is(dead[i], x.told(0, 12 + c));
                is(people[i] - dead[i], x.told(0, 2 + c));
            }
        }
        of("3e: by class, not of all LACK together");
        FamineCode y = district(0, 1);
        for (int c = 0; c < 3; c++) {
            y.people(0, c, 9);
        }
        is(27, y.week());
        is(27, y.week());
        is(9, y.told(0, 2));
        is(18, y.told(0, 9));
        is(0, y.told(0, 12));
    }

    private static void fullPurse() {
        of("3: COINS that would be above 99999 are 99999 at once");
        int[][] rows = {{99989, 99999}, {99990, 99999}, {99988, 99998}, {99999, 99999}};
        for (int[] r : rows) {
            FamineCode x = district(0, 1);
            opens(x, RELIEF);
            x.people(0, 2, 10);
            x.coins(0, 2, r[0]);
            x.week();
            is(r[1], x.told(0, 7));
        }
        of("3: at once, so ahead of what is bought");
        FamineCode bought = district(10, 7);
        opens(bought, RELIEF);
        bought.people(0, 2, 10);
        bought.coins(0, 2, 99999);
        bought.week();
        is(99999 - 70, bought.told(0, 7));
        of("3: at once, with pay and a loan together");
        FamineCode lent = Worlds.opened(0, 1, RELIEF, WORK, LOAN);
        lent.coins(0, 1, 99998);
        lent.coins(0, 0, 99999 - 180);
        lent.week();
        is(99999, lent.told(0, 6));
        is(99999, lent.told(0, 5));
        is(60, lent.told(0, 8));
        of("3: PAID and LENT count all that is paid and lent");
        is(250 + 60, lent.count(6));
        is(60, lent.count(7));
    }

    private static void passing() {
        of("3: with what is OPEN at THE WEEK as known at THE WEEK");
        FamineCode x = Worlds.made(y -> {
            y.district(9, 1);
            y.district(9, 1);
            y.people(0, 0, 3);
            y.people(1, 0, 3);
            y.line(KITCHEN, 4, 1, false, -1);
        });
        x.sign(0, 0, 0, 1);
        is(3, x.week());
        is(8, x.was(0, 0));
        is(0, x.was(1, 0));
        of("3: a SIGN that comes late changes nothing of what was");
        x.sign(1, 0, 0, 1);
        x.sign(0, 0, 0, 0);
        is(8, x.was(0, 0));
        is(0, x.was(1, 0));
        is(8, x.open(1, 0, 1));
        is(0, x.open(1, 0, 0));
        of("3: without DISTRICTS a WEEK passes too");
        FamineCode none = new FamineCode();
        for (int w = 1; w <= 60; w++) {
            is(0, none.week());
            is(w, none.count(1));
        }
        of("3: all LACK of a WEEK is that of all DISTRICTS");
        FamineCode lacking = new FamineCode();
        for (int d = 0; d < 6; d++) {
            lacking.district(0, 1);
            lacking.people(d, d % 3, 1 << d);
        }
        is(63, lacking.week());
        of("3: what was OPEN is kept for each DISTRICT and WEEK");
        FamineCode kept = new FamineCode();
        for (int d = 0; d < 6; d++) {
            kept.district(0, 1);
        }
        for (int sort = 0; sort < 4; sort++) {
            kept.line(sort, 4 + sort, 1, false, -1);
        }
        for (int w = 0; w < 60; w++) {
            if (w % 4 == 0) {
                for (int d = 0; d < 6; d++) {
                    kept.sign(d, (w / 4 + d) % 4, w, 1);
                }
            }
            kept.week();
        }
        for (int i = 0; i < 120; i++) {
            int w = i / 6 * 4 + i % 2;
            is(w < 60 ? (w % 4 == 0 ? 1 << (w / 4 + i % 6) % 4 : 0) : -1, kept.was(i % 6, w));
        }
        for (int d = 0; d < 6; d++) {
            is(0, kept.was(d, 59));
            is(1 << (14 + d) % 4, kept.was(d, 56));
        }
        of("3: PAID, LENT and EARNED are of all DISTRICTS and all WEEKS");
        FamineCode all = new FamineCode();
        for (int d = 0; d < 6; d++) {
            all.district(100, 1);
            all.people(d, 1, 10);
        }
        opens(all, WORK);
        opens(all, LOAN);
        for (int w = 1; w <= 3; w++) {
            is(0, all.week());
            is(w * 6 * 50, all.count(6));
            is(w * 6 * 30, all.count(7));
            is(w * 6 * 10, all.count(8));
        }
    }

    private static void bringing() {
        of("4: tons on WAYS, at most CAP each");
        FamineCode x = Worlds.made(y -> {
            y.district(0, 1);
            y.district(99999, 1);
            y.way(1, 0, 999, 99);
            y.way(1, 0, 1, 1);
        });
        is(1, x.load(0, 1, 0));
        is(1 + 99, x.load(0, 2, 0));
        is(1 + 999 * 99, x.load(0, 1000, 0));
        is(-1, x.load(0, 1001, 0));
        of("4: without a WAY there is none");
        FamineCode lonely = Worlds.made(Worlds::twoStores);
        is(-1, lonely.load(0, 1, 0));
        lonely.way(0, 1, 9, 1);
        is(-1, lonely.load(0, 1, 0));
        is(9, lonely.load(1, 9, 0));
        of("4: keeping at least KEEP, or what they have, if that is less");
        FamineCode keep = Worlds.made(y -> {
            y.district(0, 1);
            y.district(30, 1);
            y.district(10, 1);
            y.way(1, 0, 99, 1);
            y.way(2, 0, 99, 1);
        });
        int[][] most = {{0, 40}, {1, 38}, {9, 22}, {10, 20}, {11, 19}, {29, 1}, {30, 0}, {31, 0}, {99999, 0}};
        for (int[] m : most) {
            if (m[1] > 0) {
                is(m[1], keep.load(0, m[1], m[0]));
            }
            is(-1, keep.load(0, m[1] + 1, m[0]));
        }
        is(20, keep.bring(0, 20, 10));
        is(10, keep.told(1, 0));
        is(10, keep.told(2, 0));
        of("4: what comes to a DISTRICT below KEEP may go on, its own may not");
        FamineCode through = Worlds.made(y -> {
            y.district(0, 1);
            y.district(5, 1);
            y.district(50, 1);
            y.way(1, 0, 99, 1);
            y.way(2, 1, 20, 1);
        });
        is(-1, through.load(0, 21, 6));
        is(40, through.bring(0, 20, 6));
        is(5, through.told(1, 0));
        is(30, through.told(2, 0));
        is(20, through.told(0, 0));
        of("4: the DISTRICT itself keeps nothing and sends nothing");
        FamineCode self = Worlds.made(y -> {
            y.district(7, 1);
            y.district(3, 1);
            y.way(0, 1, 9, 1);
            y.way(1, 0, 9, 1);
        });
        is(3, self.load(0, 3, 0));
        is(-1, self.load(0, 4, 0));
        is(0, self.loaded(0, 3, 0, 0));
        anotherWayRound();
        likeOnes();
    }

    /** The second ton can only come when the first one takes another way than it took alone. */
    private static void anotherWayRound() {
        of("4: a LOAD of more tons may leave the WAYS of a smaller one");
        FamineCode x = new FamineCode();
        for (int d = 0; d < 4; d++) {
            x.district(d % 2, 1);
        }
        x.way(1, 2, 1, 1);
        x.way(2, 0, 1, 1);
        x.way(1, 0, 1, 10);
        x.way(3, 2, 1, 2);
        is(2, x.load(0, 1, 0));
        is(1, x.loaded(0, 1, 0, 0));
        is(13, x.load(0, 2, 0));
        for (int w = 0; w < 4; w++) {
            is(w == 0 ? 0 : 1, x.loaded(0, 2, 0, w));
        }
        of("4: over 5 WAYS one behind the other, from DISTRICT 5 alone");
        for (int turn = 0; turn < 2; turn++) {
            FamineCode y = new FamineCode();
            for (int d = 0; d < 6; d++) {
                y.district(d < 5 ? 0 : 99999, 1);
            }
            for (int i = 0; i < 5; i++) {
                int d = turn == 0 ? i : 4 - i;
                y.way(d + 1, d, 999 - i, 1 + i);
            }
            is(995 * 15, y.load(0, 995, 99999 - 995));
            is(-1, y.load(0, 995, 99999 - 994));
            is(-1, y.load(0, 996, 0));
            for (int w = 0; w < 5; w++) {
                is(995, y.loaded(0, 995, 0, w));
            }
        }
    }

    private static void likeOnes() {
        of("4: of like ones the least tons on WAY 0, then on WAY 1, and so on");
        for (int ways = 2; ways <= 12; ways++) {
            int count = ways;
            FamineCode x = Worlds.made(y -> {
                y.district(0, 1);
                y.district(99999, 1);
                for (int w = 0; w < count; w++) {
                    y.way(1, 0, 10, 5);
                }
            });
            int n = 10 * (ways - 1) - 3;
            is(5 * n, x.load(0, n, 0));
            for (int w = 0; w < ways; w++) {
                is(w == 0 ? 0 : w == 1 ? 7 : 10, x.loaded(0, n, 0, w));
            }
        }
        of("4: the price comes ahead of the tons on WAY 0");
        FamineCode x = Worlds.made(y -> {
            y.district(0, 1);
            y.district(99999, 1);
            y.way(1, 0, 10, 4);
            y.way(1, 0, 10, 5);
        });
        is(10, x.loaded(0, 12, 0, 0));
        is(2, x.loaded(0, 12, 0, 1));
        of("4: of like ones, two WAYS one behind the other against one");
        for (int direct = 0; direct < 3; direct++) {
            int first = direct;
            FamineCode z = Worlds.made(y -> {
                y.district(0, 1);
                y.district(0, 1);
                y.district(9, 1);
                for (int w = 0; w < 3; w++) {
                    if (w == first) {
                        y.way(2, 0, 9, 2);
                    } else if (w == (first == 0 ? 1 : 0)) {
                        y.way(2, 1, 9, 1);
                    } else {
                        y.way(1, 0, 9, 1);
                    }
                }
            });
            is(18, z.load(0, 9, 0));
            is(first == 0 ? 0 : 9, z.loaded(0, 9, 0, first));
            is(first == 0 ? 9 : 0, z.loaded(0, 9, 0, first == 0 ? 1 : 0));
        }
    }

    private static void works() {
        of("4: at most r WAYS lead to it, one behind the other");
        FamineCode x = new FamineCode();
        for (int d = 0; d < 6; d++) {
            x.district(1, 1);
        }
        for (int d = 0; d < 5; d++) {
            x.way(d, d + 1, 1, 1);
        }
        x.work(5, 10, 0);
        for (int d = 0; d < 6; d++) {
            for (int r = 0; r <= 5; r++) {
                is(d + r >= 5 ? 1 : -1, x.fewest(d, 10, r));
            }
        }
        of("4: more than one WAY from a DISTRICT, and none back");
        FamineCode star = new FamineCode();
        for (int d = 0; d < 6; d++) {
            star.district(1, 1);
            star.work(d, 1, 0);
        }
        for (int d = 1; d < 6; d++) {
            star.way(0, d, 1, 1);
        }
        is(63, star.fewest(0, 6, 1));
        is(1, star.fewest(0, 1, 0));
        is(-1, star.fewest(0, 2, 0));
        is(2, star.fewest(1, 1, 5));
        is(-1, star.fewest(1, 2, 5));
        of("4: with so many HANDS together at least");
        is(1, x.fewest(5, 9, 0));
        is(-1, x.fewest(5, 11, 0));
        of("4: no HANDS need no WORK");
        is(0, x.fewest(0, 0, 0));
        is(0, x.fewest(5, 0, 5));
        is(0, Worlds.made(Worlds::twoStores).fewest(0, 0, 0));
        of("4: without WORKS there is none for 1");
        is(-1, Worlds.made(Worlds::twoStores).fewest(0, 1, 5));
        of("4: the fewest, ahead of the WORTH");
        FamineCode y = district(1, 1);
        y.work(0, 10, 99);
        y.work(0, 10, 99);
        y.work(0, 20, 0);
        is(4, y.fewest(0, 20, 0));
        is(4, y.fewest(0, 11, 0));
        is(1, y.fewest(0, 10, 0));
        is(1 + 4, y.fewest(0, 21, 0));
        is(7, y.fewest(0, 40, 0));
        is(-1, y.fewest(0, 41, 0));
        of("4: of like ones the greatest WORTH together, then the least number as bits");
        FamineCode z = district(1, 1);
        z.work(0, 10, 1);
        z.work(0, 10, 2);
        z.work(0, 10, 2);
        z.work(0, 10, 1);
        is(2, z.fewest(0, 10, 0));
        is(2 + 4, z.fewest(0, 20, 0));
        is(1 + 2 + 4, z.fewest(0, 30, 0));
        is(15, z.fewest(0, 40, 0));
        of("4: 8 WORKS of 999 HANDS");
        FamineCode w = district(1, 1);
        for (int i = 0; i < 8; i++) {
            w.work(0, 999, 99);
        }
        is(255, w.fewest(0, 7992, 0));
        is(-1, w.fewest(0, 7993, 0));
        is(127, w.fewest(0, 6993, 0));
        is(255, w.fewest(0, 6994, 0));
    }

    private static void beside() {
        of("5: -1, with all; without a LINE it opens nothing");
        FamineCode x = Worlds.opened(0, 1, RELIEF, WORK);
        is(60 + 250, x.beside(-1, 1, 2));
        is(250, x.beside(0, 1, 2));
        is(60, x.beside(1, 1, 2));
        of("5: with WAGE and PRICE as they are");
        FamineCode waged = Worlds.opened(9, 7, WORK);
        waged.wage(99);
        waged.price(0, 9);
        is(99 * 50, waged.beside(-1, 1, 2));
        is(9 * 9, waged.beside(-1, 1, 4));
        of("5: one that hangs on it looks at it as ever");
        FamineCode hung = Worlds.opened(0, 1);
        hung.line(RELIEF, 4, 5, false, -1);
        hung.line(WORK, 4, 0, true, 0);
        hung.sign(0, 0, 0, 5);
        is(250, hung.beside(0, 1, 2));
        is(60, hung.beside(1, 1, 2));
        hung.sign(0, 0, 0, 4);
        is(0, hung.beside(-1, 1, 2));
        of("5: LINES in force are those that are so at THE WEEK");
        FamineCode ended = Worlds.opened(0, 1, RELIEF, RELIEF);
        weeks(ended, 1);
        ended.end(0);
        int people = ended.told(0, 2) + ended.told(0, 3) + ended.told(0, 4);
        is(people, ended.beside(-1, 1, 2));
        is(people, ended.beside(0, 1, 2));
        is(0, ended.beside(1, 1, 2));
        ended.end(1);
        is(0, ended.beside(-1, 20, 2));
        opens(ended, RELIEF);
        is(people, ended.beside(-1, 1, 2));
        besideSigns();
        besideWeeks();
        of("5: nothing of it changes what is");
        for (int what = 0; what < 5; what++) {
            FamineCode untouched = Worlds.made(Worlds::some);
            FamineCode asked = Worlds.made(Worlds::some);
            for (int line = -1; line < 5; line++) {
                asked.beside(line, 20, what);
            }
            is(0, asked.status());
            for (int i = 0; i <= 10; i++) {
                is(untouched.count(i), asked.count(i));
            }
            for (int d = 0; d < 3; d++) {
                for (int i = 0; i < 15; i++) {
                    is(untouched.told(d, i), asked.told(d, i));
                }
                is(-1, asked.was(d, 2));
            }
            is(untouched.week(), asked.week());
        }
    }

    private static void besideSigns() {
        of("5: SIGNS as told now, those of later WEEKS unknown");
        FamineCode x = Worlds.opened(0, 1);
        x.people(0, 0, 9);
        x.people(0, 1, 9);
        x.people(0, 2, 9);
        x.line(RELIEF, 8, 10, false, -1);
        x.line(RELIEF, 12 + 64, 10, false, -1);
        weeks(x, 3);
        x.sign(0, 0, 3, 10);
        x.sign(0, 0, 2, 0);
        is(27, x.beside(-1, 1, 2));
        is(54, x.beside(-1, 2, 2));
        is(81, x.beside(-1, 3, 2));
        is(81, x.beside(-1, 20, 2));
        is(27, x.beside(1, 1, 2));
        is(27, x.beside(1, 2, 2));
        is(27, x.beside(1, 20, 2));
        x.line(TEST, 4, 99, true, -1);
        is(27, x.beside(-1, 1, 2));
        is(54 + 2 * (45 / 2), x.beside(-1, 2, 2));
    }

    private static void besideWeeks() {
        of("5, 26: n WEEKS, as many as till WEEK 60 at most");
        FamineCode x = Worlds.opened(0, 1);
        x.people(0, 0, 9);
        x.people(0, 1, 0);
        x.people(0, 2, 0);
        opens(x, RELIEF);
        for (int w = 0; w <= 60; w++) {
            is(9 * Math.min(20, 60 - w), x.beside(-1, 20, 2));
            is(9 * Math.min(1, 60 - w), x.beside(-1, 1, 2));
            is(9 * Math.min(19, 60 - w), x.beside(-1, 19, 0));
            is(9 * w, x.told(0, 9));
            x.week();
        }
        is(0, x.beside(0, 20, 2));
        is(0, x.beside(-1, 20, 0));
        of("26: LACK, DEAD, PAID, LENT, EARNED of these WEEKS alone");
        FamineCode y = Worlds.opened(40, 1, WORK, LOAN);
        weeks(y, 1);
        int[] before = {sum(y, 9), sum(y, 12), y.count(6), y.count(7), y.count(8)};
        int[] dreamt = new int[5];
        for (int what = 0; what < 5; what++) {
            dreamt[what] = y.beside(-1, 4, what);
        }
        weeks(y, 4);
        is(sum(y, 9) - before[0], dreamt[0]);
        is(sum(y, 12) - before[1], dreamt[1]);
        is(y.count(6) - before[2], dreamt[2]);
        is(y.count(7) - before[3], dreamt[3]);
        is(y.count(8) - before[4], dreamt[4]);
        is(1, dreamt[0] > 0 && dreamt[1] > 0 && dreamt[2] > 0 && dreamt[3] > 0 ? 1 : 0);
    }

    private static int sum(FamineCode x, int from) {
        return x.told(0, from) + x.told(0, from + 1) + x.told(0, from + 2);
    }

    /** Lines 0 .. 5 of kinds 0 .. 5, lines 6 .. 11 again; each with this n and span. */
    private static FamineCode acting(int n, int span) {
        FamineCode x = new FamineCode();
        for (int l = 0; l < 12; l++) {
            x.line(l % 6, 4 * span, n, false, -1);
        }
        return x;
    }

    /** The act worked out in longs, cut to 32 bits only when all is done or where ^ is asked. */
    private static int worked(int kind, int act, int x, int line, int n, int span) {
        long open = (long) x + n;
        if (kind == WORK) {
            open *= 3;
        } else if (kind == LOAN || kind == REMIT) {
            open -= 1;
        }
        if (act == 0) {
            return (int) open;
        }
        if (act == 1) {
            long paidFor = kind == WORK ? (long) x - line : x;
            long opened = kind == WORK ? (paidFor + n) * 3 : open;
            return (int) (opened * 2 + (kind == TEST || kind == WORK ? span : 0));
        }
        if (act == 2) {
            long end = (kind == REMIT ? 2L * x : x) - line;
            if (kind == LOAN || kind == REMIT) {
                return (int) end ^ span;
            }
            return (int) (kind == KITCHEN ? end + n : end);
        }
        int told = kind == TEST || kind == WORK ? x + 1 : x;
        int tell = worked(kind, 1, told, line, n, span) ^ worked(kind, 2, told, line, n, span);
        return kind == REMIT ? worked(kind, 2, x, line, n, span) - tell : tell;
    }

    private static void acts() {
        int[][] bodies = {
            {10}, {11, 10}, {12}, {13, 11, 10, 12},
            {10}, {20, 11, 10}, {12}, {21, 13, 20, 11, 10, 12},
            {30, 10}, {31, 20, 11, 30, 10}, {12}, {21, 13, 31, 20, 11, 30, 10, 12},
            {10}, {11, 10}, {40, 12, 10}, {13, 11, 10, 40, 12, 10},
            {51, 10}, {11, 51, 10}, {50, 12}, {13, 11, 51, 10, 50, 12},
            {51, 10}, {11, 51, 10}, {61, 50, 12}, {60, 61, 50, 12, 13, 11, 51, 10, 61, 50, 12}
        };
        int[] xs = {
            0, 1, -1, 5, Integer.MAX_VALUE, Integer.MAX_VALUE - 1, Integer.MIN_VALUE, Integer.MIN_VALUE + 1,
            1 << 30, -(1 << 30), (1 << 30) - 1, 715827883, 1431655765
        };
        for (int[] told : new int[][] {{0, 1}, {400, 4}, {-400, 3}, {7, 2}}) {
            for (int l = 0; l < 12; l++) {
                FamineCode x = acting(told[0], told[1]);
                for (int act = 0; act < 4; act++) {
                    for (int number : xs) {
                        of("6: ACT " + act + " of LINE " + l + " with " + number + ", 32 bits wrapping");
                        is(worked(l % 6, act, number, l, told[0], told[1]), x.act(l, act, number));
                        is(0, x.status());
                    }
                    of("6: THE TRACE of ACT " + act + " of LINE " + l);
                    int[] ran = bodies[l % 6 * 4 + act];
                    is(ran.length, x.count(10));
                    for (int i = 0; i < 13; i++) {
                        is(i < ran.length ? ran[i] : -1, x.trace(i));
                    }
                }
            }
        }
        of("6: the first 50 bodies are kept; the longest act has 11, so all of them");
        FamineCode x = acting(1, 1);
        for (int i = 0; i < 6; i++) {
            x.act(5, 3, i);
            is(11, x.count(10));
            is(60, x.trace(0));
            is(12, x.trace(10));
            is(-1, x.trace(11));
            is(-1, x.trace(49));
            is(-1, x.trace(50));
        }
        of("6: without an act() THE TRACE is empty");
        is(0, acting(1, 1).count(10));
        is(-1, acting(1, 1).trace(0));
    }

    private static void sheets() {
        of("SHEETS 0 .. 3 are missing at first");
        for (int s = 0; s < 4; s++) {
            int sheet = s;
            FamineCode x = Worlds.made(Worlds::twoStores);
            is(-1, x.cell(s, 0, 0));
            is(10, x.status());
            is(-1, x.forge(2, 0, s));
            is(10, x.status());
            is(-1, x.forge(3, 0, s));
            is(10, x.status());
            for (int sort = 0; sort < 3; sort++) {
                is(-1, x.signs(0, 0, s, sort, 0, 0));
                is(10, x.status());
            }
            EDGES.done(y -> y.sheet(sheet, 2, 40), 1, y -> y.cell(sheet, 39, 1000));
        }
        of("SHEETS are of a sort: bytes are cut to 8 bits with sign, shorts and ints are whole");
        int[][] cuts = {
            {-1000, 24}, {-257, -1}, {-256, 0}, {-129, 127}, {-128, -128}, {-1, -1}, {0, 0}, {1, 1},
            {127, 127}, {128, -128}, {255, -1}, {256, 0}, {1000, -24}
        };
        for (int[] cut : cuts) {
            FamineCode x = Worlds.made(Worlds::some);
            EDGES.done(x, 1, x.cell(0, 1, cut[0]));
            EDGES.done(x, cut[1], x.forge(3, 1, 0));
            EDGES.done(x, 1, x.cell(1, 1, cut[0]));
            EDGES.done(x, cut[0], x.forge(2, 1, 1));
            EDGES.done(x, 1, x.cell(2, 1, cut[0]));
            int whole = x.signs(0, 0, 2, 2, 1, 1);
            is(Math.abs(cut[0]) <= 99 ? Worlds.SOME_SIGNS + 1 : -1, whole);
        }
        of("SHEETS: a new one in place of another has all its numbers 0");
        for (int sort = -1; sort < 3; sort++) {
            FamineCode x = new FamineCode();
            x.sheet(1, 1, 40);
            for (int i = 0; i < 40; i++) {
                x.cell(1, i, 1 + i);
            }
            EDGES.done(x, 40, x.forge(2, 39, 1));
            EDGES.done(x, 1, x.sheet(1, sort, 40));
            EDGES.done(x, 1, x.sheet(1, 1, 40));
            for (int i = 0; i < 40; i++) {
                EDGES.done(x, 0, x.forge(2, i, 1));
            }
        }
        of("SHEETS: each is its own");
        FamineCode x = new FamineCode();
        for (int s = 0; s < 4; s++) {
            x.sheet(s, 1, 40);
            x.cell(s, 0, s + 1);
            x.cell(s, 39, s + 11);
        }
        for (int s = 0; s < 4; s++) {
            is(s + 1, x.forge(2, 0, s));
            is(0, x.forge(2, 1, s));
            is(0, x.forge(2, 38, s));
            is(s + 11, x.forge(2, 39, s));
        }
    }

    public static void main(String[] args) {
        districts();
        signs();
        manySigns();
        force();
        hanging();
        tests();
        openAndWhy();
        kitchen();
        pay();
        lend();
        buy();
        die();
        fullPurse();
        passing();
        bringing();
        works();
        beside();
        acts();
        sheets();
        DUE.end();
    }
}
