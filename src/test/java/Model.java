import java.math.BigInteger;
import java.util.ArrayList;
import java.util.List;

/**
 * The document told a second time, word by word and without any cleverness: fractions of BigIntegers, END by trying,
 * TURNING ABOUT by every way there is. Written to be compared with TyreBook, not to be fast.
 */
final class Model {
    private static final int STORE = -1;
    private static final int TREADER = -2;
    private static final int CAST = -3;

    private static final class Reading {
        final int x;
        final int y;

        Reading(int x, int y) {
            this.x = x;
            this.y = y;
        }
    }

    private static final class Tyre {
        int number;
        int maker;
        int bought;
        int treads;
        int mends;
        int lengths;
        int where = STORE;
        int back = -9;
        List<Reading> readings = new ArrayList<>(List.of(new Reading(0, 180)));
    }

    private static final class Place {
        final int kind;
        Tyre tyre;

        Place(int kind) {
            this.kind = kind;
        }
    }

    private final List<List<Place>> wagons = new ArrayList<>();
    private final List<Tyre> tyres = new ArrayList<>();
    private final List<int[]> log = new ArrayList<>();
    private final int[] leasts = {30, 20, 20, 16, 16};
    private final int[] means = {100, 100, 100, 100};
    private final int[] refused = new int[7];
    private int apart = 20;
    private int day;

    private int no(int answer) {
        refused[-answer]++;
        return answer;
    }

    private boolean noWagon(int w) {
        return w < 0 || w >= wagons.size();
    }

    private boolean noPlace(int w, int p) {
        return noWagon(w) || p < 0 || p >= wagons.get(w).size();
    }

    private boolean noTyre(int t) {
        return t < 0 || t >= tyres.size();
    }

    private static boolean noKind(int k) {
        return k < 0 || k > 4;
    }

    private static boolean noMaker(int m) {
        return m < 0 || m > 3;
    }

    private boolean logFull(int more) {
        return log.size() + more > 600;
    }

    private void move(Tyre t, int where) {
        t.where = where;
        if (log.size() < 600) {
            log.add(new int[] {day, t.number, where});
        }
    }

    int wagon() {
        if (wagons.size() == 5) {
            return no(-6);
        }
        wagons.add(new ArrayList<>());
        return wagons.size() - 1;
    }

    int place(int w, int kind) {
        if (noWagon(w) || noKind(kind)) {
            return no(-1);
        }
        if (wagons.get(w).size() == 7) {
            return no(-6);
        }
        wagons.get(w).add(new Place(kind));
        return wagons.get(w).size() - 1;
    }

    int least(int kind, int d) {
        if (noKind(kind)) {
            return no(-1);
        }
        if (d < 0) {
            return no(-4);
        }
        if (d > 100) {
            return no(-6);
        }
        int was = leasts[kind];
        leasts[kind] = d;
        return was;
    }

    int apart(int d) {
        if (d < 0) {
            return no(-4);
        }
        if (d > 100) {
            return no(-6);
        }
        int was = apart;
        apart = d;
        return was;
    }

    int maker(int m, int mean) {
        if (noMaker(m)) {
            return no(-1);
        }
        if (mean < 0) {
            return no(-4);
        }
        if (mean > 1000) {
            return no(-6);
        }
        int was = means[m];
        means[m] = mean;
        return was;
    }

    int buy(int m) {
        if (noMaker(m)) {
            return no(-1);
        }
        if (tyres.size() == 40 || logFull(1)) {
            return no(-6);
        }
        Tyre t = new Tyre();
        t.number = tyres.size();
        t.maker = m;
        t.bought = day;
        tyres.add(t);
        move(t, STORE);
        return t.number;
    }

    int put(int t, int w, int p) {
        if (noTyre(t) || noPlace(w, p)) {
            return no(-1);
        }
        Place place = wagons.get(w).get(p);
        if (tyres.get(t).where != STORE || place.tyre != null) {
            return no(-2);
        }
        if (logFull(1)) {
            return no(-6);
        }
        place.tyre = tyres.get(t);
        move(place.tyre, 10 * w + p);
        return 1;
    }

    int take(int w, int p) {
        if (noPlace(w, p)) {
            return no(-1);
        }
        Place place = wagons.get(w).get(p);
        if (place.tyre == null) {
            return no(-2);
        }
        if (logFull(1)) {
            return no(-6);
        }
        Tyre t = place.tyre;
        place.tyre = null;
        move(t, STORE);
        return t.number;
    }

    int swap(int w, int p, int o, int q) {
        if (noPlace(w, p) || noPlace(o, q) || w == o && p == q) {
            return no(-1);
        }
        Place a = wagons.get(w).get(p);
        Place b = wagons.get(o).get(q);
        int writes = (a.tyre != null ? 1 : 0) + (b.tyre != null ? 1 : 0);
        if (writes == 0) {
            return no(-2);
        }
        if (logFull(writes)) {
            return no(-6);
        }
        Tyre t = a.tyre;
        a.tyre = b.tyre;
        b.tyre = t;
        if (a.tyre != null) {
            move(a.tyre, 10 * w + p);
        }
        if (b.tyre != null) {
            move(b.tyre, 10 * o + q);
        }
        return 1;
    }

    int read(int t, int depth) {
        if (noTyre(t)) {
            return no(-1);
        }
        Tyre tyre = tyres.get(t);
        if (tyre.where == TREADER || tyre.where == CAST) {
            return no(-2);
        }
        if (depth < 0) {
            return no(-4);
        }
        if (depth > 300) {
            return no(-6);
        }
        tyre.readings.add(new Reading(tyre.lengths, depth));
        if (tyre.readings.size() == 13) {
            tyre.readings.remove(1);
        }
        return tyre.readings.size();
    }

    /** Upper and lower number of WEAR. */
    private BigInteger[] wearOf(Tyre t) {
        BigInteger n = BigInteger.valueOf(t.readings.size());
        BigInteger sx = BigInteger.ZERO;
        BigInteger sy = BigInteger.ZERO;
        BigInteger sxy = BigInteger.ZERO;
        BigInteger sxx = BigInteger.ZERO;
        boolean unlike = false;
        for (Reading r : t.readings) {
            BigInteger x = BigInteger.valueOf(r.x);
            BigInteger y = BigInteger.valueOf(r.y);
            sx = sx.add(x);
            sy = sy.add(y);
            sxy = sxy.add(x.multiply(y));
            sxx = sxx.add(x.multiply(x));
            unlike |= r.x != t.readings.get(0).x;
        }
        BigInteger up = BigInteger.valueOf(means[t.maker]);
        BigInteger low = BigInteger.valueOf(100000);
        if (unlike) {
            up = n.multiply(sxy).subtract(sx.multiply(sy)).negate().max(BigInteger.ZERO);
            low = n.multiply(sxx).subtract(sx.multiply(sx));
        }
        BigInteger g = up.gcd(low);
        return new BigInteger[] {up.divide(g), low.divide(g)};
    }

    private static int depthAt(Reading last, BigInteger[] wear, long z) {
        BigInteger left = BigInteger.valueOf(last.y).multiply(wear[1])
            .subtract(wear[0].multiply(BigInteger.valueOf(z - last.x)));
        return left.signum() < 0 ? 0 : left.divide(wear[1]).intValueExact();
    }

    private static int endOf(Reading last, BigInteger[] wear, int lengths, int least) {
        if (depthAt(last, wear, lengths) < least) {
            return 0;
        }
        int can = 0;
        int above = 1000001;
        while (above - can > 1) {
            int mid = (can + above) / 2;
            if (depthAt(last, wear, (long) lengths + mid) >= least) {
                can = mid;
            } else {
                above = mid;
            }
        }
        return can;
    }

    private static Reading last(Tyre t) {
        return t.readings.get(t.readings.size() - 1);
    }

    private int depthNow(Tyre t) {
        return depthAt(last(t), wearOf(t), t.lengths);
    }

    private int endOf(Tyre t, int least) {
        return endOf(last(t), wearOf(t), t.lengths, least);
    }

    private Place pairOf(int w, int p) {
        List<Place> twins = new ArrayList<>();
        for (Place place : wagons.get(w)) {
            if (place.kind == 2) {
                twins.add(place);
            }
        }
        int i = twins.indexOf(wagons.get(w).get(p));
        int j = i ^ 1;
        return i < 0 || j >= twins.size() ? null : twins.get(j);
    }

    private int whyOf(int w) {
        for (int p = 0; p < wagons.get(w).size(); p++) {
            Place place = wagons.get(w).get(p);
            if (place.tyre == null) {
                if (place.kind != 4) {
                    return 10 * p + 1;
                }
                continue;
            }
            if (place.kind == 0 && place.tyre.treads > 0) {
                return 10 * p + 2;
            }
            if (depthNow(place.tyre) < leasts[place.kind]) {
                return 10 * p + 3;
            }
            Place pair = pairOf(w, p);
            if (pair != null && pair.tyre != null && Math.abs(depthNow(place.tyre) - depthNow(pair.tyre)) > apart) {
                return 10 * p + 4;
            }
        }
        return -9;
    }

    private int farOf(int w, Tyre[] laid) {
        int far = 1000000;
        for (int p = 0; p < laid.length; p++) {
            int kind = wagons.get(w).get(p).kind;
            if (kind != 4 && laid[p] != null) {
                far = Math.min(far, endOf(laid[p], leasts[kind]));
            }
        }
        return far;
    }

    private Tyre[] laidOn(int w) {
        Tyre[] laid = new Tyre[wagons.get(w).size()];
        for (int p = 0; p < laid.length; p++) {
            laid[p] = wagons.get(w).get(p).tyre;
        }
        return laid;
    }

    int go(int w, int n, boolean laden) {
        if (noWagon(w)) {
            return no(-1);
        }
        if (whyOf(w) != -9) {
            return no(-2);
        }
        if (n < 1) {
            return no(-4);
        }
        List<Tyre> rolling = new ArrayList<>();
        for (Place p : wagons.get(w)) {
            if (p.tyre != null && p.kind != 4 && (laden || p.kind != 3)) {
                rolling.add(p.tyre);
            }
        }
        boolean tooFar = n > 10000;
        for (Tyre t : rolling) {
            tooFar |= (long) t.lengths + n > 1000000;
        }
        if (tooFar) {
            return no(-6);
        }
        for (Tyre t : rolling) {
            t.lengths += n;
        }
        return farOf(w, laidOn(w));
    }

    int why(int w) {
        return noWagon(w) ? no(-1) : whyOf(w);
    }

    int far(int w) {
        return noWagon(w) ? no(-1) : farOf(w, laidOn(w));
    }

    /** Tries every way and keeps the best by comparing whole ways, in the order of the document's words. */
    private final class Ways {
        final int w;
        final Tyre[] old;
        final List<Tyre> all = new ArrayList<>();
        final int[][] ends;
        Tyre[] best;
        int bestFar;

        Ways(int w) {
            this.w = w;
            old = laidOn(w);
            for (Tyre t : old) {
                if (t != null) {
                    all.add(t);
                }
            }
            ends = new int[40][old.length];
            for (Tyre t : all) {
                for (int p = 0; p < old.length; p++) {
                    int kind = wagons.get(w).get(p).kind;
                    ends[t.number][p] = kind == 4 ? 1000000 : endOf(t, leasts[kind]);
                }
            }
            if (!all.isEmpty()) {
                layOnto(0, new Tyre[old.length]);
            }
        }

        /** Tyre by tyre (TyreBook goes place by place). */
        private void layOnto(int i, Tyre[] way) {
            if (i == all.size()) {
                weigh(way);
                return;
            }
            for (int p = 0; p < way.length; p++) {
                if (way[p] == null) {
                    way[p] = all.get(i);
                    layOnto(i + 1, way);
                    way[p] = null;
                }
            }
        }

        private void weigh(Tyre[] way) {
            int far = 1000000;
            for (int p = 0; p < way.length; p++) {
                int kind = wagons.get(w).get(p).kind;
                if (kind == 0 && way[p] != null && way[p].treads > 0) {
                    return;
                }
                if (kind != 4 && old[p] != null && way[p] == null) {
                    return;
                }
                if (way[p] != null) {
                    far = Math.min(far, ends[way[p].number][p]);
                }
            }
            if (best == null || far > bestFar || far == bestFar && better(way)) {
                best = way.clone();
                bestFar = far;
            }
        }

        private boolean better(Tyre[] way) {
            if (changes(way) != changes(best)) {
                return changes(way) < changes(best);
            }
            for (int p = 0; p < way.length; p++) {
                if (way[p] != best[p]) {
                    return best[p] == null || way[p] != null && way[p].number < best[p].number;
                }
            }
            return false;
        }

        int changes(Tyre[] way) {
            int changes = 0;
            for (int p = 0; p < way.length; p++) {
                changes += way[p] != null && way[p] != old[p] ? 1 : 0;
            }
            return changes;
        }
    }

    int best(int w) {
        if (noWagon(w)) {
            return no(-1);
        }
        Ways ways = new Ways(w);
        return ways.best == null ? no(-2) : ways.bestFar;
    }

    int turn(int w) {
        if (noWagon(w)) {
            return no(-1);
        }
        Ways ways = new Ways(w);
        if (ways.best == null) {
            return no(-2);
        }
        int changes = ways.changes(ways.best);
        if (changes > 0 && logFull(changes)) {
            return no(-6);
        }
        for (int p = 0; p < ways.best.length; p++) {
            wagons.get(w).get(p).tyre = ways.best[p];
            if (ways.best[p] != null && ways.best[p] != ways.old[p]) {
                move(ways.best[p], 10 * w + p);
            }
        }
        return changes;
    }

    long wear(int t, int what) {
        if (noTyre(t)) {
            return no(-1);
        }
        if (what != 0 && what != 1) {
            return no(-2);
        }
        return wearOf(tyres.get(t))[what].longValueExact();
    }

    int depth(int t, int n) {
        if (noTyre(t)) {
            return no(-1);
        }
        if (n < 0) {
            return no(-4);
        }
        if (n > 1000000) {
            return no(-6);
        }
        Tyre tyre = tyres.get(t);
        return depthAt(last(tyre), wearOf(tyre), (long) tyre.lengths + n);
    }

    int end(int t, int least) {
        if (noTyre(t)) {
            return no(-1);
        }
        if (least < 0) {
            return no(-4);
        }
        if (least > 300) {
            return no(-6);
        }
        return endOf(tyres.get(t), least);
    }

    int send(int t) {
        if (noTyre(t)) {
            return no(-1);
        }
        Tyre tyre = tyres.get(t);
        if (tyre.where != STORE || tyre.treads >= 2 || tyre.mends >= 3) {
            return no(-2);
        }
        if (logFull(1) || day + 10 > 2000) {
            return no(-6);
        }
        tyre.back = day + 10;
        move(tyre, TREADER);
        return tyre.back;
    }

    int mend(int t) {
        if (noTyre(t)) {
            return no(-1);
        }
        Tyre tyre = tyres.get(t);
        if (tyre.where != STORE) {
            return no(-2);
        }
        if (tyre.mends == 9) {
            return no(-6);
        }
        return ++tyre.mends;
    }

    int cast(int t) {
        if (noTyre(t)) {
            return no(-1);
        }
        if (tyres.get(t).where != STORE) {
            return no(-2);
        }
        if (logFull(1)) {
            return no(-6);
        }
        move(tyres.get(t), CAST);
        return 1;
    }

    int days(int n) {
        if (n < 1) {
            return no(-4);
        }
        if ((long) day + n > 2000) {
            return no(-6);
        }
        for (int i = 0; i < n; i++) {
            day++;
            for (Tyre t : tyres) {
                if (t.where == TREADER && t.back == day) {
                    t.treads++;
                    t.lengths = 0;
                    t.back = -9;
                    t.readings = new ArrayList<>(List.of(new Reading(0, 180)));
                    move(t, STORE);
                }
            }
        }
        return day;
    }

    /** New tyres one by one, each run to its END. */
    int few(int w, int m, int n) {
        if (noWagon(w) || noMaker(m)) {
            return no(-1);
        }
        if (n < 0) {
            return no(-4);
        }
        if (n > 1000000) {
            return no(-6);
        }
        BigInteger[] wear = {BigInteger.valueOf(means[m]), BigInteger.valueOf(100000)};
        int together = 0;
        for (Place p : wagons.get(w)) {
            if (p.kind == 4) {
                continue;
            }
            int each = endOf(new Reading(0, 180), wear, 0, leasts[p.kind]);
            int can = p.tyre == null ? each : endOf(p.tyre, leasts[p.kind]);
            together += p.tyre == null ? 1 : 0;
            while (can < n) {
                together++;
                can += each;
            }
        }
        return together;
    }

    int asOf(int t, int d) {
        if (noTyre(t)) {
            no(-1);
            return -11;
        }
        if (d < 0) {
            no(-4);
            return -14;
        }
        if (d > day) {
            no(-6);
            return -16;
        }
        int where = -9;
        for (int[] entry : log) {
            if (entry[1] == t && entry[0] <= d) {
                where = entry[2];
            }
        }
        return where;
    }

    int tyreOf(int t, int what) {
        if (noTyre(t) || what < 0 || what > 8) {
            return -20;
        }
        Tyre y = tyres.get(t);
        int[] all = {y.maker, y.bought, y.treads, y.mends, y.lengths, y.readings.size(), y.where, depthNow(y), y.back};
        return all[what];
    }

    int reading(int t, int i, int what) {
        if (noTyre(t) || i < 0 || i >= tyres.get(t).readings.size() || what < 0 || what > 1) {
            return -9;
        }
        Reading r = tyres.get(t).readings.get(i);
        return what == 0 ? r.x : r.y;
    }

    int placeOf(int w, int p, int what) {
        if (noPlace(w, p) || what < 0 || what > 2) {
            return -9;
        }
        Place place = wagons.get(w).get(p);
        if (what == 0) {
            return place.kind;
        }
        if (what == 1) {
            return place.tyre == null ? -9 : place.tyre.number;
        }
        Place pair = pairOf(w, p);
        return pair == null ? -9 : wagons.get(w).indexOf(pair);
    }

    int count(int what) {
        if (what >= 11 && what <= 16) {
            return refused[what - 10];
        }
        int store = 0;
        int on = 0;
        int treader = 0;
        int cast = 0;
        for (Tyre t : tyres) {
            store += t.where == STORE ? 1 : 0;
            on += t.where >= 0 ? 1 : 0;
            treader += t.where == TREADER ? 1 : 0;
            cast += t.where == CAST ? 1 : 0;
        }
        int[] all = {day, wagons.size(), tyres.size(), store, on, treader, cast, log.size()};
        return what < 0 || what > 7 ? -9 : all[what];
    }
}
