/** Objects brought to a known state. Each setup ends with a call that was done, so with status 0. */
final class Worlds {
    interface Setup {
        void on(FamineCode x);
    }

    /** How many signs some() tells. */
    static final int SOME_SIGNS = 5;

    private Worlds() {
    }

    static FamineCode made(Setup setup) {
        FamineCode x = new FamineCode();
        setup.on(x);
        return x;
    }

    static void weeks(FamineCode x, int n) {
        for (int i = 0; i < n; i++) {
            x.week();
        }
    }

    /** Nothing told at all; the wage is put to what it is, so that a call was done. */
    static void empty(FamineCode x) {
        x.wage(5);
    }

    /**
     * Some of everything at week 2: districts 0 .. 2, lines 0 .. 4 (4 is ended), ways 0 .. 3, works
     * 0 .. 3, sheets 0 .. 2 of bytes, shorts and ints (3 is missing), an image of week 1 to which it
     * was gone back once, a trace.
     */
    static void some(FamineCode x) {
        x.district(100, 3);
        x.district(500, 2);
        x.district(40, 5);
        for (int d = 0; d < 3; d++) {
            for (int c = 0; c < 3; c++) {
                x.people(d, c, 20 + 10 * d + c);
                x.coins(d, c, 50 + 7 * d + 11 * c);
            }
        }
        x.line(3, 8, 10, false, -1);
        x.line(2, 37, 0, true, -1);
        x.line(4, 76, 20, false, 0);
        x.line(5, 4, -400, true, 2);
        x.line(0, 4, -5, true, -1);
        x.way(1, 0, 50, 2);
        x.way(1, 2, 100, 1);
        x.way(2, 0, 100, 1);
        x.way(0, 1, 10, 9);
        x.work(0, 10, 3);
        x.work(1, 20, 1);
        x.work(2, 20, 5);
        x.work(0, 10, 9);
        x.sign(0, 0, 0, 12);
        x.sign(0, 1, 0, -5);
        x.week();
        x.image();
        x.week();
        x.back();
        x.sign(0, 0, 1, 5);
        x.sign(1, 0, 0, 40);
        x.sheet(0, 0, 5);
        x.sheet(1, 1, 4);
        x.sheet(2, 2, 3);
        for (int i = 0; i < 3; i++) {
            x.cell(0, i, 10 + i);
            x.cell(1, i, 20 + i);
            x.cell(2, i, 30 + i);
        }
        x.week();
        x.sign(0, 0, 0, -9);
        x.end(4);
        x.act(3, 3, 5);
    }

    /** Every room is full: 6 districts, 200 signs, 12 lines, 12 ways, 8 works; week 19. */
    static void full(FamineCode x) {
        for (int d = 0; d < 6; d++) {
            x.district(1000 + d, 1);
            x.people(d, 1, 10);
        }
        for (int l = 0; l < 12; l++) {
            x.line(l % 6, 4, 0, true, l - 1);
        }
        for (int w = 0; w < 12; w++) {
            x.way(w % 6, (w + 1) % 6, 999, 1);
        }
        for (int w = 0; w < 8; w++) {
            x.work(w % 6, 10, w);
        }
        weeks(x, 19);
        x.sheet(0, 0, 40);
        x.sheet(1, 1, 40);
        x.sheet(2, 2, 0);
        x.cell(1, 3, 500);
        x.cell(0, 5, 99);
        for (int s = 0; s < 10; s++) {
            x.signs(s % 6, s % 4, 0, 0, 2 * s, 20);
        }
    }

    /** As some(), at week 60. */
    static void lastWeek(FamineCode x) {
        some(x);
        weeks(x, 58);
    }

    /** As some(), gone back 10 times in all. */
    static void backUsedUp(FamineCode x) {
        some(x);
        for (int i = 0; i < 9; i++) {
            x.back();
        }
    }

    /** A store of 99990 in district 0, one of 30 in district 1, a way of 20 tons between them. */
    static void nearFullStore(FamineCode x) {
        x.district(99990, 1);
        x.district(30, 1);
        x.way(1, 0, 20, 4);
    }

    /** Two districts and nothing else. */
    static void twoStores(FamineCode x) {
        x.district(60000, 1);
        x.district(60000, 1);
    }

    /** Lines 0 .. 5 of kinds 0 .. 5, with n 100 + kind and spans 1, 2, 3, 4, 1, 2. */
    static void sixKinds(FamineCode x) {
        for (int kind = 0; kind < 6; kind++) {
            x.line(kind, 4 * (1 + kind % 4), 100 + kind, false, -1);
        }
    }

    /** One district with people 30, 20, 10 and a line of each of these kinds, open at every sign. */
    static FamineCode opened(int store, int price, int... kinds) {
        FamineCode x = new FamineCode();
        x.district(store, price);
        x.people(0, 0, 30);
        x.people(0, 1, 20);
        x.people(0, 2, 10);
        for (int kind : kinds) {
            x.line(kind, 4, 0, true, -1);
        }
        return x;
    }
}
