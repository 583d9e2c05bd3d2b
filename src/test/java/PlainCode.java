import java.math.BigInteger;
import java.util.ArrayList;
import java.util.List;

/**
 * The document once more, as plainly as can be and by other means than FamineCode: signs are looked
 * for in a list, acts are real methods that override one another, what the host refuses is really
 * done and caught, and loads are worked out with prices of unbounded size. RandomRunsTest compares
 * the two.
 */
final class PlainCode {
    static final class Refused extends RuntimeException {
        private static final long serialVersionUID = 1L;
        final int status;

        Refused(int status) {
            super("refused", null, false, false);
            this.status = status;
        }
    }

    static final class District {
        int store;
        int price;
        int[] people = new int[3];
        int[] coins = new int[3];
        int debt;
        int[] lack = new int[3];
        int[] dead = new int[3];
        List<Integer> was = new ArrayList<>();

        District copy() {
            District d = new District();
            d.store = store;
            d.price = price;
            d.people = people.clone();
            d.coins = coins.clone();
            d.debt = debt;
            d.lack = lack.clone();
            d.dead = dead.clone();
            d.was = new ArrayList<>(was);
            return d;
        }
    }

    record Sign(int district, int sort, int week, int n, int at) { }

    record Way(int from, int to, int cap, int price) { }

    record Work(int district, int hands, int worth) { }

    static class Relief {
        int number;
        int sort;
        int span;
        int how;
        int n;
        boolean unknown;
        int on;
        int from;
        int ended = -1;
        List<Integer> trace;

        int kind() { return 0; }

        int open(int x) { trace.add(10); return x + n; }

        int pay(int x) { trace.add(11); return open(x) * 2; }

        int end(int x) { trace.add(12); return x - number; }

        int tell(int x) { trace.add(13); return pay(x) ^ end(x); }
    }

    static class Test extends Relief {
        @Override int kind() { return 1; }

        @Override int pay(int x) { trace.add(20); return super.pay(x) + span; }

        @Override int tell(int x) { trace.add(21); return super.tell(x + 1); }
    }

    static class WorkLine extends Test {
        @Override int kind() { return 2; }

        @Override int open(int x) { trace.add(30); return super.open(x) * 3; }

        @Override int pay(int x) { trace.add(31); return super.pay(x - number); }
    }

    static class Kitchen extends Relief {
        @Override int kind() { return 3; }

        @Override int end(int x) { trace.add(40); return super.end(x) + open(0); }
    }

    static class Loan extends Relief {
        @Override int kind() { return 4; }

        @Override int end(int x) { trace.add(50); return super.end(x) ^ span; }

        @Override int open(int x) { trace.add(51); return super.open(x) - 1; }
    }

    static class Remit extends Loan {
        @Override int kind() { return 5; }

        @Override int tell(int x) { trace.add(60); return end(x) - super.tell(x); }

        @Override int end(int x) { trace.add(61); return super.end(x * 2); }
    }

    static final class World {
        List<District> districts = new ArrayList<>();
        List<Sign> signs = new ArrayList<>();
        List<Relief> lines = new ArrayList<>();
        List<Integer> ends = new ArrayList<>();
        List<Way> ways = new ArrayList<>();
        List<Work> works = new ArrayList<>();
        int week;
        int wage = 5;
        int paid;
        int lent;
        int earned;

        World copy() {
            World w = new World();
            for (District d : districts) {
                w.districts.add(d.copy());
            }
            w.signs = new ArrayList<>(signs);
            w.lines = new ArrayList<>(lines);
            w.ends = new ArrayList<>(ends);
            w.ways = new ArrayList<>(ways);
            w.works = new ArrayList<>(works);
            w.week = week;
            w.wage = wage;
            w.paid = paid;
            w.lent = lent;
            w.earned = earned;
            return w;
        }
    }

    World world = new World();
    World image;
    int backs;
    int status;
    List<Integer> trace = new ArrayList<>();
    Object[] sheets = new Object[4];

    private static void need(boolean so, int status) {
        if (!so) {
            throw new Refused(status);
        }
    }

    private static boolean in(int n, int least, int most) {
        return least <= n && n <= most;
    }

    private boolean isDistrict(int d) {
        return in(d, 0, world.districts.size() - 1);
    }

    private boolean isLine(int l) {
        return in(l, 0, world.lines.size() - 1);
    }

    /** Any call by its name; refused ones answer -1. */
    int call(String name, int... a) {
        switch (name) {
            case "told": return told(a[0], a[1]);
            case "known": return known(a[0], a[1], a[2], a[3]);
            case "holds": return holds(a[0], a[1], a[2], a[3]);
            case "open": return open(a[0], a[1], a[2]);
            case "why": return why(a[0], a[1], a[2], a[3]);
            case "was": return was(a[0], a[1]);
            case "lineTold": return lineTold(a[0], a[1]);
            case "load": return loaded(a[0], a[1], a[2], -1);
            case "loaded": return in(a[3], 0, world.ways.size() - 1) ? loaded(a[0], a[1], a[2], a[3]) : -1;
            case "fewest": return fewest(a[0], a[1], a[2]);
            case "beside": return beside(a[0], a[1], a[2]);
            case "count": return count(a[0]);
            case "trace": return in(a[0], 0, Math.min(50, trace.size()) - 1) ? trace.get(a[0]) : -1;
            case "status": return status;
            default:
        }
        try {
            int answer = told(name, a);
            status = 0;
            return answer;
        } catch (Refused e) {
            status = e.status;
            return -1;
        }
    }

    private int told(String name, int[] a) {
        switch (name) {
            case "district": return district(a[0], a[1]);
            case "people": return people(a[0], a[1], a[2]);
            case "coins": return coins(a[0], a[1], a[2]);
            case "price": return price(a[0], a[1]);
            case "wage": return wage(a[0]);
            case "sign": return sign(a[0], a[1], a[2], a[3]);
            case "line": return line(a[0], a[1], a[2], a[3] == 1, a[4]);
            case "end": return end(a[0]);
            case "week": return week();
            case "way": return way(a[0], a[1], a[2], a[3]);
            case "work": return work(a[0], a[1], a[2]);
            case "bring": return bring(a[0], a[1], a[2]);
            case "image": image = world.copy(); return 1;
            case "back": return back();
            case "act": return act(a[0], a[1], a[2]);
            case "sheet": return sheet(a[0], a[1], a[2]);
            case "cell": return cell(a[0], a[1], a[2]);
            case "signs": return signs(a[0], a[1], a[2], a[3], a[4], a[5]);
            case "forge": return forge(a[0], a[1], a[2]);
            default: throw new IllegalArgumentException(name);
        }
    }

    private int district(int store, int price) {
        need(in(store, 0, 99999) && in(price, 1, 99), 1);
        need(world.districts.size() < 6, 2);
        District d = new District();
        d.store = store;
        d.price = price;
        for (int w = 0; w < world.week; w++) {
            d.was.add(0);
        }
        world.districts.add(d);
        return world.districts.size() - 1;
    }

    private int people(int d, int of, int n) {
        need(isDistrict(d) && in(of, 0, 2) && in(n, 0, 999), 1);
        int before = world.districts.get(d).people[of];
        world.districts.get(d).people[of] = n;
        return before;
    }

    private int coins(int d, int of, int n) {
        need(isDistrict(d) && in(of, 0, 2) && in(n, 0, 99999), 1);
        int before = world.districts.get(d).coins[of];
        world.districts.get(d).coins[of] = n;
        return before;
    }

    private int price(int d, int n) {
        need(isDistrict(d) && in(n, 1, 99), 1);
        int before = world.districts.get(d).price;
        world.districts.get(d).price = n;
        return before;
    }

    private int wage(int n) {
        need(in(n, 0, 99), 1);
        int before = world.wage;
        world.wage = n;
        return before;
    }

    private int sign(int d, int sort, int week, int n) {
        need(isDistrict(d) && in(sort, 0, 3) && in(week, 0, world.week) && in(n, -99, 99), 1);
        need(world.signs.size() < 200, 2);
        world.signs.add(new Sign(d, sort, week, n, world.week));
        return world.signs.size();
    }

    private int line(int kind, int test, int n, boolean unknown, int on) {
        int sort = test & 3;
        int span = (test >> 2) & 7;
        int how = test >> 5;
        need(in(kind, 0, 5) && in(span, 1, 4) && in(how, 0, 2) && in(n, -400, 400), 1);
        need(on == -1 || isLine(on), 1);
        need(world.lines.size() < 12, 2);
        Relief l = kind == 0 ? new Relief() : kind == 1 ? new Test() : kind == 2 ? new WorkLine()
            : kind == 3 ? new Kitchen() : kind == 4 ? new Loan() : new Remit();
        l.number = world.lines.size();
        l.sort = sort;
        l.span = span;
        l.how = how;
        l.n = n;
        l.unknown = unknown;
        l.on = on;
        l.from = world.week;
        l.trace = new ArrayList<>();
        world.lines.add(l);
        world.ends.add(-1);
        return l.number;
    }

    private int end(int l) {
        need(isLine(l), 1);
        need(world.ends.get(l) == -1, 3);
        world.ends.set(l, world.week);
        return world.week;
    }

    private boolean inForce(int l, int week) {
        int ended = world.ends.get(l);
        return world.lines.get(l).from <= week && (ended == -1 || ended > week);
    }

    private Integer sought(int d, int sort, int week, int at) {
        Integer found = null;
        for (Sign s : world.signs) {
            if (s.district == d && s.sort == sort && s.week == week && s.at <= at) {
                found = s.n;
            }
        }
        return found;
    }

    private boolean holdsAt(int line, int d, int week, int at) {
        Relief l = world.lines.get(line);
        if (l.on != -1 && !holdsAt(l.on, d, week, at)) {
            return false;
        }
        List<Integer> ns = new ArrayList<>();
        boolean all = true;
        for (int i = 0; i < l.span; i++) {
            Integer n = sought(d, l.sort, week - i, at);
            if (n == null) {
                all = false;
            } else {
                ns.add(n);
            }
        }
        if (l.how == 0) {
            return all ? ns.stream().mapToInt(Integer::intValue).sum() >= l.n : l.unknown;
        }
        if (l.how == 1) {
            return ns.stream().anyMatch(n -> n >= l.n) ? false : all || l.unknown;
        }
        return ns.stream().anyMatch(n -> n >= l.n) || (!all && l.unknown);
    }

    private int kinds(int d, int week, int at, int forceWeek, int without) {
        int bits = 0;
        for (int l = 0; l < world.lines.size(); l++) {
            if (l != without && inForce(l, forceWeek) && holdsAt(l, d, week, at)) {
                bits |= 1 << world.lines.get(l).kind();
            }
        }
        return bits;
    }

    /** What a week brings: LACK, DEAD, PAID, LENT, EARNED. */
    private int[] pass(int forceWeek, int without) {
        int[] sums = new int[5];
        for (int i = 0; i < world.districts.size(); i++) {
            District d = world.districts.get(i);
            int bits = kinds(i, world.week, world.week, forceWeek, without);
            d.was.add(bits);
            int[] left = d.people.clone();
            if ((bits & 8) != 0) {
                int tons = Math.min(left[0], d.store);
                left[0] -= tons;
                d.store -= tons;
            }
            for (int c = 0; c < 2; c++) {
                int full = d.people[c] * world.wage;
                int coins = (bits & 4) != 0 ? full : (bits & 2) != 0 ? full / 2 : 0;
                sums[2] += coins;
                d.coins[c] = Math.min(99999, d.coins[c] + coins);
            }
            for (int c = 0; c < 3 && (bits & 1) != 0; c++) {
                sums[2] += d.people[c];
                d.coins[c] = Math.min(99999, d.coins[c] + d.people[c]);
            }
            if ((bits & 32) != 0) {
                d.debt /= 2;
            }
            if ((bits & 16) != 0) {
                int coins = 3 * d.people[1];
                sums[3] += coins;
                d.debt += coins;
                d.coins[1] = Math.min(99999, d.coins[1] + coins);
            }
            for (int c = 2; c >= 0; c--) {
                while (left[c] > 0 && d.store > 0 && d.coins[c] >= d.price) {
                    left[c]--;
                    d.store--;
                    d.coins[c] -= d.price;
                    sums[4] += d.price;
                }
            }
            for (int c = 0; c < 3; c++) {
                sums[0] += left[c];
                sums[1] += left[c] / 10;
                d.lack[c] += left[c];
                d.dead[c] += left[c] / 10;
                d.people[c] -= left[c] / 10;
            }
        }
        world.paid += sums[2];
        world.lent += sums[3];
        world.earned += sums[4];
        world.week++;
        return sums;
    }

    private int week() {
        need(world.week < 60, 2);
        return pass(world.week, -1)[0];
    }

    private int way(int from, int to, int cap, int price) {
        need(isDistrict(from) && isDistrict(to) && from != to && in(cap, 1, 999) && in(price, 1, 99), 1);
        need(world.ways.size() < 12, 2);
        world.ways.add(new Way(from, to, cap, price));
        return world.ways.size() - 1;
    }

    private int work(int d, int hands, int worth) {
        need(isDistrict(d) && in(hands, 1, 999) && in(worth, 0, 99), 1);
        need(world.works.size() < 8, 2);
        world.works.add(new Work(d, hands, worth));
        return world.works.size() - 1;
    }

    private boolean askable(int d, int n, int keep) {
        return isDistrict(d) && in(n, 1, 9999) && in(keep, 0, 99999);
    }

    /** Tons by ways, or null: the order of loads is one number, each way's tons a digit of base 1000. */
    private int[] theLoad(int goal, int n, int keep) {
        int ways = world.ways.size();
        BigInteger[] cost = new BigInteger[ways];
        BigInteger base = BigInteger.valueOf(1000);
        for (int w = 0; w < ways; w++) {
            cost[w] = BigInteger.valueOf(world.ways.get(w).price).multiply(base.pow(ways))
                .add(base.pow(ways - 1 - w));
        }
        int[] tons = new int[ways];
        int[] spare = new int[world.districts.size()];
        for (int d = 0; d < spare.length; d++) {
            spare[d] = d == goal ? 0 : Math.max(0, world.districts.get(d).store - keep);
        }
        for (int ton = 0; ton < n; ) {
            BigInteger[] far = new BigInteger[spare.length];
            int[] by = new int[spare.length];
            for (int d = 0; d < spare.length; d++) {
                far[d] = spare[d] > 0 ? BigInteger.ZERO : null;
                by[d] = -1;
            }
            boolean changed = true;
            while (changed) {
                changed = false;
                for (int e = 0; e < 2 * ways; e++) {
                    Way w = world.ways.get(e / 2);
                    int room = e % 2 == 0 ? w.cap - tons[e / 2] : tons[e / 2];
                    int from = e % 2 == 0 ? w.from : w.to;
                    int to = e % 2 == 0 ? w.to : w.from;
                    if (room == 0 || far[from] == null) {
                        continue;
                    }
                    BigInteger via = far[from].add(e % 2 == 0 ? cost[e / 2] : cost[e / 2].negate());
                    if (far[to] == null || via.compareTo(far[to]) < 0) {
                        far[to] = via;
                        by[to] = e;
                        changed = true;
                    }
                }
            }
            if (far[goal] == null) {
                return null;
            }
            List<Integer> path = new ArrayList<>();
            int node = goal;
            int fits = n - ton;
            while (by[node] != -1) {
                int e = by[node];
                path.add(e);
                fits = Math.min(fits, e % 2 == 0 ? world.ways.get(e / 2).cap - tons[e / 2] : tons[e / 2]);
                node = e % 2 == 0 ? world.ways.get(e / 2).from : world.ways.get(e / 2).to;
            }
            fits = Math.min(fits, spare[node]);
            spare[node] -= fits;
            for (int e : path) {
                tons[e / 2] += e % 2 == 0 ? fits : -fits;
            }
            ton += fits;
        }
        return tons;
    }

    private int loaded(int d, int n, int keep, int way) {
        int[] tons = askable(d, n, keep) ? theLoad(d, n, keep) : null;
        if (tons == null) {
            return -1;
        }
        return way < 0 ? priceOf(tons) : tons[way];
    }

    private int priceOf(int[] tons) {
        int sum = 0;
        for (int w = 0; w < tons.length; w++) {
            sum += tons[w] * world.ways.get(w).price;
        }
        return sum;
    }

    private int bring(int d, int n, int keep) {
        need(askable(d, n, keep), 1);
        need(world.districts.get(d).store + n <= 99999, 2);
        int[] tons = theLoad(d, n, keep);
        need(tons != null, 3);
        for (int w = 0; w < tons.length; w++) {
            world.districts.get(world.ways.get(w).from).store -= tons[w];
            world.districts.get(world.ways.get(w).to).store += tons[w];
        }
        return priceOf(tons);
    }

    private int back() {
        need(backs < 10, 2);
        need(image != null, 3);
        backs++;
        world = image.copy();
        return world.week;
    }

    private int told(int d, int what) {
        if (!isDistrict(d) || !in(what, 0, 14)) {
            return -1;
        }
        District it = world.districts.get(d);
        int[] row = {it.store, it.price, it.people[0], it.people[1], it.people[2], it.coins[0],
            it.coins[1], it.coins[2], it.debt, it.lack[0], it.lack[1], it.lack[2], it.dead[0],
            it.dead[1], it.dead[2]};
        return row[what];
    }

    private int known(int d, int sort, int week, int at) {
        Integer n = isDistrict(d) && in(sort, 0, 3) && in(week, 0, 60) && in(at, 0, 60)
            ? sought(d, sort, week, at) : null;
        return n == null ? -1000 : n;
    }

    private int holds(int l, int d, int week, int at) {
        if (!isLine(l) || !isDistrict(d) || !in(week, 0, 60) || !in(at, 0, 60)) {
            return -1;
        }
        return holdsAt(l, d, week, at) ? 1 : 0;
    }

    private int open(int d, int week, int at) {
        return isDistrict(d) && in(week, 0, 60) && in(at, 0, 60) ? kinds(d, week, at, week, -1) : -1;
    }

    private int why(int kind, int d, int week, int at) {
        if (!in(kind, 0, 5) || !isDistrict(d) || !in(week, 0, 60) || !in(at, 0, 60)) {
            return -1;
        }
        for (int l = 0; l < world.lines.size(); l++) {
            if (world.lines.get(l).kind() == kind && inForce(l, week) && holdsAt(l, d, week, at)) {
                return l;
            }
        }
        return -1;
    }

    private int was(int d, int week) {
        return isDistrict(d) && in(week, 0, world.week - 1) ? world.districts.get(d).was.get(week) : -1;
    }

    private int lineTold(int line, int what) {
        if (!isLine(line) || !in(what, 0, 8)) {
            return -1000;
        }
        Relief l = world.lines.get(line);
        int[] row = {l.kind(), l.sort, l.span, l.how, l.n, l.unknown ? 1 : 0, l.on, l.from,
            world.ends.get(line)};
        return row[what];
    }

    private int fewest(int goal, int hands, int r) {
        if (!isDistrict(goal) || !in(hands, 0, 9999) || !in(r, 0, 5)) {
            return -1;
        }
        List<Work> works = world.works;
        int best = -1;
        long bestRank = Long.MAX_VALUE;
        for (int set = (1 << works.size()) - 1; set >= 0; set--) {
            int people = 0;
            int worth = 0;
            boolean near = true;
            for (int w = 0; w < works.size(); w++) {
                if ((set >> w & 1) == 1) {
                    people += works.get(w).hands;
                    worth += works.get(w).worth;
                    near &= leads(goal, works.get(w).district, r);
                }
            }
            long rank = Integer.bitCount(set) * 1_000_000L - worth;
            if (near && people >= hands && rank <= bestRank) {
                best = set;
                bestRank = rank;
            }
        }
        return best;
    }

    private boolean leads(int from, int to, int r) {
        if (from == to) {
            return true;
        }
        for (Way w : world.ways) {
            if (r > 0 && w.from == from && leads(w.to, to, r - 1)) {
                return true;
            }
        }
        return false;
    }

    private int beside(int line, int n, int what) {
        if (!(line == -1 || isLine(line)) || !in(n, 1, 20) || !in(what, 0, 4)) {
            return -1;
        }
        World real = world;
        world = real.copy();
        int sum = 0;
        for (int i = 0; i < n && world.week < 60; i++) {
            sum += pass(real.week, line)[what];
        }
        world = real;
        return sum;
    }

    private int count(int what) {
        int[] row = {world.districts.size(), world.week, world.signs.size(), world.lines.size(),
            world.ways.size(), world.works.size(), world.paid, world.lent, world.earned, world.wage,
            Math.min(50, trace.size())};
        return in(what, 0, 10) ? row[what] : -1;
    }

    private int act(int line, int act, int x) {
        need(isLine(line) && in(act, 0, 3), 1);
        Relief l = world.lines.get(line);
        l.trace.clear();
        int answer = act == 0 ? l.open(x) : act == 1 ? l.pay(x) : act == 2 ? l.end(x) : l.tell(x);
        trace = new ArrayList<>(l.trace);
        return answer;
    }

    private int sheet(int sheet, int sort, int n) {
        need(in(sheet, 0, 3) && in(sort, -1, 2) && (sort == -1 || in(n, 0, 40)), 1);
        sheets[sheet] = sort == -1 ? null : sort == 0 ? new byte[n] : sort == 1 ? new short[n] : new int[n];
        return 1;
    }

    private int cell(int sheet, int i, int v) {
        need(in(sheet, 0, 3) && in(v, -1000, 1000), 1);
        try {
            Object it = sheets[sheet];
            if (it instanceof byte[] b) {
                b[i] = (byte) v;
            } else if (it instanceof short[] s) {
                s[i] = (short) v;
            } else {
                ((int[]) it)[i] = v;
            }
            return 1;
        } catch (NullPointerException e) {
            throw new Refused(10);
        } catch (ArrayIndexOutOfBoundsException e) {
            throw new Refused(12);
        }
    }

    private int signs(int d, int sort, int sheet, int of, int i, int n) {
        need(isDistrict(d) && in(sort, 0, 3) && in(sheet, 0, 3) && in(of, 0, 2) && in(n, 0, 20), 1);
        need(n <= world.week + 1, 1);
        need(world.signs.size() + n <= 200, 2);
        Object it = sheets[sheet];
        need(it != null, 10);
        int length = -1;
        try {
            length = of == 0 ? ((byte[]) it).length : of == 1 ? ((short[]) it).length : ((int[]) it).length;
        } catch (ClassCastException e) {
            throw new Refused(11);
        }
        int[] ns = new int[n];
        for (int j = 0; j < n; j++) {
            need((long) i + j >= 0 && (long) i + j < length, 12);
            ns[j] = of == 0 ? ((byte[]) it)[i + j] : of == 1 ? ((short[]) it)[i + j] : ((int[]) it)[i + j];
        }
        for (int v : ns) {
            need(in(v, -99, 99), 3);
        }
        for (int j = 0; j < n; j++) {
            world.signs.add(new Sign(d, sort, world.week - j, ns[j], world.week));
        }
        return world.signs.size();
    }

    private int forge(int what, int n, int k) {
        need(in(what, 0, 6) && in(n, -100, 100) && in(k, -100, 100), 1);
        int lineNumber = ((k % 12) + 12) % 12;
        Relief l = isLine(lineNumber) ? world.lines.get(lineNumber) : null;
        Object sheet = sheets[k & 3];
        try {
            switch (what) {
                case 0: return take(l, ((n % 6) + 6) % 6);
                case 1: return new int[n].length;
                case 2: return ((short[]) sheet)[n];
                case 3:
                    byte[] row = new byte[6];
                    System.arraycopy((byte[]) sheet, 1, row, n, n);
                    int sum = 0;
                    for (byte b : row) {
                        sum += b;
                    }
                    return sum;
                case 4:
                    Relief[] tests = new Test[1];
                    tests[0] = l;
                    return l == null ? 0 : l.kind();
                case 5: return 1000 / n;
                default:
                    RuntimeException failure = (n & 1) == 0 ? null : new IllegalStateException();
                    try {
                        throw failure;
                    } catch (IllegalStateException e) {
                        return 1;
                    }
            }
        } catch (NullPointerException e) {
            throw new Refused(10);
        } catch (ClassCastException e) {
            throw new Refused(11);
        } catch (ArrayStoreException e) {
            throw new Refused(14);
        } catch (NegativeArraySizeException e) {
            throw new Refused(13);
        } catch (IndexOutOfBoundsException e) {
            throw new Refused(12);
        } catch (ArithmeticException e) {
            throw new Refused(15);
        }
    }

    private static int take(Relief l, int kind) {
        switch (kind) {
            case 0: return l.kind();
            case 1: return ((Test) l).kind();
            case 2: return ((WorkLine) l).kind();
            case 3: return ((Kitchen) l).kind();
            case 4: return ((Loan) l).kind();
            default: return ((Remit) l).kind();
        }
    }
}
