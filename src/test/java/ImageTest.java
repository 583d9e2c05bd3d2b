/** Promises 14 and 15: what an image keeps, what it doesn't, and that it stays as it was. */
public final class ImageTest {
    private static final Due DUE = new Due();
    private static final Edges EDGES = new Edges(DUE);

    private static Worlds.Setup after(Worlds.Setup first, Worlds.Setup then) {
        return x -> {
            first.on(x);
            then.on(x);
        };
    }

    /** Gone back from this change, which is done, all is as if it had not been made. */
    private static void takenBack(String change, Worlds.Setup setup, Worlds.Setup made) {
        EDGES.of("14, 15: an IMAGE keeps all, " + change);
        FamineCode x = Worlds.made(after(setup, made));
        EDGES.is(0, x.status());
        Worlds.Setup imaged = after(setup, FamineCode::image);
        EDGES.alike(imaged, after(imaged, y -> {
            made.on(y);
            y.back();
        }));
    }

    private static void takenBack(String change, Worlds.Setup made) {
        takenBack(change, Worlds::some, made);
    }

    private static void all() {
        takenBack("DISTRICTS", x -> x.district(9, 9));
        takenBack("PEOPLE", x -> x.people(2, 1, 999));
        takenBack("COINS", x -> x.coins(2, 1, 999));
        takenBack("PRICE", x -> x.price(2, 99));
        takenBack("WAGE", x -> x.wage(99));
        takenBack("SIGNS", x -> x.sign(1, 2, 1, 3));
        takenBack("SIGNS put right", x -> x.sign(0, 0, 1, 3));
        takenBack("SIGNS from a SHEET", x -> x.signs(0, 0, 0, 0, 0, 3));
        takenBack("LINES", x -> x.line(1, 4, 0, true, 2));
        takenBack("the ends of LINES", x -> x.end(1));
        takenBack("WEEKS", FamineCode::week);
        takenBack("WAYS", x -> x.way(2, 1, 1, 1));
        takenBack("WORKS", x -> x.work(2, 1, 1));
        takenBack("STORES", x -> x.bring(0, 9, 0));
        takenBack("all WEEKS that were left", x -> Worlds.weeks(x, 58));
        takenBack("many SIGNS", x -> {
            for (int i = 0; i < 195; i++) {
                x.sign(i % 3, i % 4, i % 2, i - 99);
            }
        });
        takenBack("full rooms", Worlds::full, x -> {
            x.week();
            x.end(11);
            x.bring(0, 999, 0);
            x.people(5, 2, 999);
            x.wage(6);
        });
        EDGES.of("14: an IMAGE of nothing");
        Worlds.Setup again = x -> {
            Worlds.nearFullStore(x);
            x.line(2, 4, 0, false, -1);
            x.work(1, 3, 3);
            Worlds.weeks(x, 20);
        };
        EDGES.alike(again, x -> {
            x.image();
            Worlds.full(x);
            x.week();
            x.back();
            again.on(x);
        });
    }

    private static void notAll() {
        EDGES.of("14: but SHEETS");
        Worlds.Setup imaged = after(Worlds::some, FamineCode::image);
        Worlds.Setup[] changes = {
            x -> x.cell(0, 1, 77), x -> x.cell(1, 3, 77), x -> x.cell(2, 0, 77), x -> x.sheet(0, 1, 9),
            x -> x.sheet(1, -1, 0), x -> x.sheet(3, 0, 9)
        };
        for (Worlds.Setup change : changes) {
            EDGES.alikeUnseen(after(after(imaged, FamineCode::back), change), after(after(imaged, change), FamineCode::back));
        }
        EDGES.of("14: but THE TRACE");
        FamineCode x = Worlds.made(imaged);
        x.act(0, 0, 1);
        EDGES.done(x, 2, x.back());
        EDGES.is(1, x.count(10));
        EDGES.is(10, x.trace(0));
        EDGES.is(-1, x.trace(1));
        EDGES.of("14: but how often it was gone back");
        FamineCode y = Worlds.made(imaged);
        for (int i = 2; i <= 10; i++) {
            EDGES.done(y, 2, y.back());
            EDGES.done(y, 1, y.image());
        }
        EDGES.is(-1, y.back());
        EDGES.is(2, y.status());
    }

    private static void inPlace() {
        EDGES.of("14: in place of one before");
        Worlds.Setup second = after(Worlds::some, x -> {
            x.wage(7);
            x.image();
        });
        EDGES.alike(second, after(second, x -> {
            x.wage(8);
            x.district(1, 1);
            x.back();
        }));
        EDGES.of("14: it answers 1, each time");
        FamineCode x = Worlds.made(Worlds::empty);
        for (int i = 0; i < 20; i++) {
            x.wage(-1);
            EDGES.done(x, 1, x.image());
        }
        EDGES.of("15: the IMAGE stays as it is, whatever comes after it was gone back");
        Worlds.Setup imaged = after(Worlds::some, FamineCode::image);
        EDGES.alike(imaged, after(imaged, y -> {
            for (int i = 0; i < 9; i++) {
                y.people(i % 3, 0, 100 + i);
                y.week();
                y.sign(1, 1, 3, i);
                y.end(0);
                y.way(2, 1, 7, 7);
                y.work(1, 7, 7);
                y.wage(i);
                y.back();
            }
        }));
        EDGES.of("15: it answers THE WEEK");
        for (int week : new int[] {0, 1, 59, 60}) {
            FamineCode y = new FamineCode();
            Worlds.weeks(y, week);
            y.image();
            y.week();
            y.wage(-1);
            EDGES.done(y, week, y.back());
            EDGES.is(week, y.count(1));
        }
    }

    public static void main(String[] args) {
        all();
        notAll();
        inPlace();
        DUE.end();
    }
}
