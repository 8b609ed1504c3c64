/** The tyre store of a wagon house, as ../shared/DOC.md promises it; words in capitals are the document's. */
public final class TyreBook {
    private static final int MOST_WAGONS = 5;
    private static final int MOST_PLACES = 7;
    private static final int MOST_TYRES = 40;
    private static final int MOST_READINGS = 12;
    private static final int MOST_LOG = 600;
    private static final int MAKERS = 4;
    private static final int LAST_DAY = 2000;
    private static final int TREADER_DAYS = 10;
    private static final int MOST_LEAST = 100;
    private static final int MOST_APART = 100;
    private static final int MOST_MEAN = 1000;
    private static final int MOST_DEPTH = 300;
    private static final int MOST_GOING = 10000;
    private static final int MOST_LENGTHS = 1000000;
    private static final int MOST_END = 1000000;
    private static final int MOST_TREADS = 2;
    private static final int MENDS_TO_SEND = 3;
    private static final int MOST_MENDS = 9;
    private static final int NEW_DEPTH = 180;
    private static final int MEAN_LENGTHS = 100000;

    private static final int STEER = 0;
    private static final int TWIN = 2;
    private static final int LIFT = 3;
    private static final int SPARE = 4;
    private static final int[] FIRST_LEASTS = {30, 20, 20, 16, 16};
    private static final int[] FIRST_MEANS = {100, 100, 100, 100};
    private static final int FIRST_APART = 20;

    private static final int IN_STORE = -1;
    private static final int AT_TREADER = -2;
    private static final int IS_CAST = -3;
    private static final int NONE = -9;
    private static final int NO_TYRE = -20;

    private static final int NOBODY = -1;
    private static final int STATE = -2;
    private static final int BELOW = -4;
    private static final int ROOM = -6;
    private static final int REFUSALS = 6;

    private final Wagon[] wagons = new Wagon[MOST_WAGONS];
    private final Tyre[] tyres = new Tyre[MOST_TYRES];
    private final int[] leasts = FIRST_LEASTS.clone();
    private final int[] means = FIRST_MEANS.clone();
    private final int[] refusals = new int[REFUSALS + 1];
    private final Log log = new Log();
    private final Turning turning = new Turning();
    private final Wear newWear = new Wear();
    private int wagonCount;
    private int tyreCount;
    private int mostApart = FIRST_APART;
    private int today;

    public TyreBook() {
    }

    public int wagon() {
        if (wagonCount < 0 || wagonCount >= wagons.length) {
            return refuse(ROOM);
        }
        int number = wagonCount;
        wagons[number] = new Wagon(number);
        wagonCount = number + 1;
        return number;
    }

    public int place(int wagon, int kind) {
        Wagon w = wagonAt(wagon);
        if (w == null || !isKind(kind)) {
            return refuse(NOBODY);
        }
        if (w.isFull()) {
            return refuse(ROOM);
        }
        return w.addPlace(kind);
    }

    public int least(int kind, int d) {
        if (!isKind(kind)) {
            return refuse(NOBODY);
        }
        int wrong = outside(d, 0, MOST_LEAST);
        if (wrong != 0) {
            return refuse(wrong);
        }
        int was = at(leasts, kind);
        write(leasts, kind, d);
        return was;
    }

    public int apart(int d) {
        int wrong = outside(d, 0, MOST_APART);
        if (wrong != 0) {
            return refuse(wrong);
        }
        int was = mostApart;
        mostApart = d;
        return was;
    }

    public int maker(int m, int mean) {
        if (!isMaker(m)) {
            return refuse(NOBODY);
        }
        int wrong = outside(mean, 0, MOST_MEAN);
        if (wrong != 0) {
            return refuse(wrong);
        }
        int was = at(means, m);
        write(means, m, mean);
        refitTyresOf(m);
        return was;
    }

    public int buy(int maker) {
        if (!isMaker(maker)) {
            return refuse(NOBODY);
        }
        if (tyreCount < 0 || tyreCount >= tyres.length || !log.hasRoomFor(1)) {
            return refuse(ROOM);
        }
        Tyre bought = new Tyre(tyreCount, maker, today);
        bought.startTread(at(means, maker));
        tyres[bought.number] = bought;
        tyreCount = bought.number + 1;
        move(bought, IN_STORE);
        return bought.number;
    }

    public int put(int tyre, int wagon, int place) {
        Tyre t = tyreAt(tyre);
        Wagon w = wagonAt(wagon);
        if (t == null || w == null || !w.hasPlace(place)) {
            return refuse(NOBODY);
        }
        if (t.where != IN_STORE || w.tyreOn(place) != null) {
            return refuse(STATE);
        }
        if (!log.hasRoomFor(1)) {
            return refuse(ROOM);
        }
        w.lay(place, t);
        move(t, w.spot(place));
        return 1;
    }

    public int take(int wagon, int place) {
        Wagon w = wagonAt(wagon);
        if (w == null || !w.hasPlace(place)) {
            return refuse(NOBODY);
        }
        Tyre t = w.tyreOn(place);
        if (t == null) {
            return refuse(STATE);
        }
        if (!log.hasRoomFor(1)) {
            return refuse(ROOM);
        }
        w.lay(place, null);
        move(t, IN_STORE);
        return t.number;
    }

    public int swap(int wagon, int place, int other, int there) {
        Wagon w = wagonAt(wagon);
        Wagon o = wagonAt(other);
        if (w == null || o == null || !w.hasPlace(place) || !o.hasPlace(there)) {
            return refuse(NOBODY);
        }
        if (wagon == other && place == there) {
            return refuse(NOBODY);
        }
        Tyre here = w.tyreOn(place);
        Tyre yonder = o.tyreOn(there);
        if (here == null && yonder == null) {
            return refuse(STATE);
        }
        if (!log.hasRoomFor(here == null || yonder == null ? 1 : 2)) {
            return refuse(ROOM);
        }
        w.lay(place, yonder);
        o.lay(there, here);
        move(yonder, w.spot(place));
        move(here, o.spot(there));
        return 1;
    }

    public int read(int tyre, int depth) {
        Tyre t = tyreAt(tyre);
        if (t == null) {
            return refuse(NOBODY);
        }
        if (t.where == AT_TREADER || t.where == IS_CAST) {
            return refuse(STATE);
        }
        int wrong = outside(depth, 0, MOST_DEPTH);
        if (wrong != 0) {
            return refuse(wrong);
        }
        t.addReading(depth);
        t.fitWear(at(means, t.maker));
        return t.readings;
    }

    public int go(int wagon, int n, boolean laden) {
        Wagon w = wagonAt(wagon);
        if (w == null) {
            return refuse(NOBODY);
        }
        if (w.whyUnfit(leasts, mostApart) != NONE) {
            return refuse(STATE);
        }
        if (n < 1) {
            return refuse(BELOW);
        }
        if (n > MOST_GOING || w.mostLengths(laden) > MOST_LENGTHS - n) {
            return refuse(ROOM);
        }
        w.roll(n, laden);
        return w.reach(leasts);
    }

    public int why(int wagon) {
        Wagon w = wagonAt(wagon);
        return w == null ? refuse(NOBODY) : w.whyUnfit(leasts, mostApart);
    }

    public int far(int wagon) {
        Wagon w = wagonAt(wagon);
        return w == null ? refuse(NOBODY) : w.reach(leasts);
    }

    public int best(int wagon) {
        Wagon w = wagonAt(wagon);
        if (w == null) {
            return refuse(NOBODY);
        }
        if (!turning.findReach(w, leasts)) {
            return refuse(STATE);
        }
        return turning.reach;
    }

    public int turn(int wagon) {
        Wagon w = wagonAt(wagon);
        if (w == null) {
            return refuse(NOBODY);
        }
        if (!turning.findReach(w, leasts)) {
            return refuse(STATE);
        }
        int changes = turning.findWay();
        if (!log.hasRoomFor(changes)) {
            return refuse(ROOM);
        }
        layAsChosen(w);
        return changes;
    }

    public long wear(int tyre, int what) {
        Tyre t = tyreAt(tyre);
        if (t == null) {
            return refuse(NOBODY);
        }
        switch (what) {
            case 0: return t.loss.upper;
            case 1: return t.loss.lower;
            default: return refuse(STATE);
        }
    }

    public int depth(int tyre, int n) {
        Tyre t = tyreAt(tyre);
        if (t == null) {
            return refuse(NOBODY);
        }
        int wrong = outside(n, 0, MOST_LENGTHS);
        if (wrong != 0) {
            return refuse(wrong);
        }
        return t.depthAfter(n);
    }

    public int end(int tyre, int least) {
        Tyre t = tyreAt(tyre);
        if (t == null) {
            return refuse(NOBODY);
        }
        int wrong = outside(least, 0, MOST_DEPTH);
        if (wrong != 0) {
            return refuse(wrong);
        }
        return t.endFor(least);
    }

    public int send(int tyre) {
        Tyre t = tyreAt(tyre);
        if (t == null) {
            return refuse(NOBODY);
        }
        if (t.where != IN_STORE || t.treads >= MOST_TREADS || t.mends >= MENDS_TO_SEND) {
            return refuse(STATE);
        }
        if (!log.hasRoomFor(1) || today + TREADER_DAYS > LAST_DAY) {
            return refuse(ROOM);
        }
        t.back = today + TREADER_DAYS;
        move(t, AT_TREADER);
        return t.back;
    }

    public int mend(int tyre) {
        Tyre t = tyreAt(tyre);
        if (t == null) {
            return refuse(NOBODY);
        }
        if (t.where != IN_STORE) {
            return refuse(STATE);
        }
        if (t.mends >= MOST_MENDS) {
            return refuse(ROOM);
        }
        t.mends++;
        return t.mends;
    }

    public int cast(int tyre) {
        Tyre t = tyreAt(tyre);
        if (t == null) {
            return refuse(NOBODY);
        }
        if (t.where != IN_STORE) {
            return refuse(STATE);
        }
        if (!log.hasRoomFor(1)) {
            return refuse(ROOM);
        }
        move(t, IS_CAST);
        return 1;
    }

    public int days(int n) {
        int wrong = outside(n, 1, LAST_DAY - today);
        if (wrong != 0) {
            return refuse(wrong);
        }
        int until = today + n;
        // The LOG may fill on the way, so those that are back are written in the order of their DAYS.
        for (int i = 0; i < MOST_TYRES; i++) {
            Tyre next = nextBack(until);
            if (next == null) {
                break;
            }
            today = next.back;
            bringBack(next);
        }
        today = until;
        return today;
    }

    public int few(int wagon, int maker, int n) {
        Wagon w = wagonAt(wagon);
        if (w == null || !isMaker(maker)) {
            return refuse(NOBODY);
        }
        int wrong = outside(n, 0, MOST_LENGTHS);
        if (wrong != 0) {
            return refuse(wrong);
        }
        newWear.become(at(means, maker), MEAN_LENGTHS);
        int together = 0;
        for (int p = 0; p < w.places; p++) {
            together += neededOn(w, p, n);
        }
        return together;
    }

    public int asOf(int tyre, int day) {
        Tyre t = tyreAt(tyre);
        if (t == null) {
            // Where a tyre was may be -1 to -3, so these refusals have numbers of their own.
            return refuse(NOBODY) - 10;
        }
        int wrong = outside(day, 0, today);
        if (wrong != 0) {
            return refuse(wrong) - 10;
        }
        return log.whereWas(t.number, day);
    }

    public int tyreOf(int tyre, int what) {
        Tyre t = tyreAt(tyre);
        if (t == null) {
            return NO_TYRE;
        }
        switch (what) {
            case 0: return t.maker;
            case 1: return t.bought;
            case 2: return t.treads;
            case 3: return t.mends;
            case 4: return t.lengths;
            case 5: return t.readings;
            case 6: return t.where;
            case 7: return t.depthAfter(0);
            case 8: return t.back;
            default: return NO_TYRE;
        }
    }

    public int reading(int tyre, int i, int what) {
        Tyre t = tyreAt(tyre);
        if (t == null || !t.hasReading(i)) {
            return NONE;
        }
        switch (what) {
            case 0: return at(t.readLengths, i);
            case 1: return at(t.readDepths, i);
            default: return NONE;
        }
    }

    public int placeOf(int wagon, int place, int what) {
        Wagon w = wagonAt(wagon);
        if (w == null || !w.hasPlace(place)) {
            return NONE;
        }
        switch (what) {
            case 0: return w.kindOf(place);
            case 1: return numberOf(w.tyreOn(place));
            case 2: return w.pairOf(place);
            default: return NONE;
        }
    }

    public int count(int what) {
        switch (what) {
            case 0: return today;
            case 1: return wagonCount;
            case 2: return tyreCount;
            case 3: return tyresAt(IN_STORE);
            case 4: return tyreCount - tyresAt(IN_STORE) - tyresAt(AT_TREADER) - tyresAt(IS_CAST);
            case 5: return tyresAt(AT_TREADER);
            case 6: return tyresAt(IS_CAST);
            case 7: return log.kept;
            default: return what >= 11 && what <= 16 ? at(refusals, what - 10) : NONE;
        }
    }

    private int refuse(int answer) {
        write(refusals, -answer, at(refusals, -answer) + 1);
        return answer;
    }

    /** 0 for a number from the least to the greatest, else the refusal that is due. */
    private static int outside(int n, int least, int greatest) {
        return n < least ? BELOW : n > greatest ? ROOM : 0;
    }

    private Wagon wagonAt(int number) {
        return number >= 0 && number < wagonCount && number < wagons.length ? wagons[number] : null;
    }

    private Tyre tyreAt(int number) {
        return number >= 0 && number < tyreCount && number < tyres.length ? tyres[number] : null;
    }

    private static boolean isKind(int kind) {
        return kind >= 0 && kind <= SPARE;
    }

    private static boolean isMaker(int maker) {
        return maker >= 0 && maker < MAKERS;
    }

    private static int numberOf(Tyre t) {
        return t == null ? NONE : t.number;
    }

    private static int at(int[] row, int i) {
        return i >= 0 && i < row.length ? row[i] : 0;
    }

    private static void write(int[] row, int i, int value) {
        if (i >= 0 && i < row.length) {
            row[i] = value;
        }
    }

    private void move(Tyre t, int where) {
        if (t != null) {
            t.where = where;
            log.note(today, t.number, where);
        }
    }

    private void layAsChosen(Wagon w) {
        for (int p = 0; p < w.places; p++) {
            Tyre t = turning.chosenFor(p);
            if (t != w.tyreOn(p)) {
                w.lay(p, t);
                move(t, w.spot(p));
            }
        }
    }

    private void refitTyresOf(int maker) {
        for (int i = 0; i < MOST_TYRES; i++) {
            Tyre t = tyreAt(i);
            if (t != null && t.maker == maker) {
                t.fitWear(at(means, maker));
            }
        }
    }

    private Tyre nextBack(int until) {
        Tyre next = null;
        for (int i = 0; i < MOST_TYRES; i++) {
            Tyre t = tyreAt(i);
            if (t != null && t.where == AT_TREADER && t.back <= until && (next == null || t.back < next.back)) {
                next = t;
            }
        }
        return next;
    }

    private void bringBack(Tyre t) {
        t.treads++;
        t.back = NONE;
        t.startTread(at(means, t.maker));
        move(t, IN_STORE);
    }

    private int neededOn(Wagon w, int place, int n) {
        int kind = w.kindOf(place);
        if (kind == SPARE) {
            return 0;
        }
        int least = at(leasts, kind);
        int each = newWear.endFrom(NEW_DEPTH, 0, least);
        Tyre t = w.tyreOn(place);
        if (t == null) {
            return Math.max(1, tyresFor(n, each));
        }
        return tyresFor(n - t.endFor(least), each);
    }

    private static int tyresFor(int lengths, int each) {
        return lengths <= 0 || each <= 0 ? 0 : (lengths - 1) / each + 1;
    }

    private int tyresAt(int where) {
        int found = 0;
        for (int i = 0; i < MOST_TYRES; i++) {
            Tyre t = tyreAt(i);
            if (t != null && t.where == where) {
                found++;
            }
        }
        return found;
    }

    /** WEAR: a fraction without common factor, and what follows from it. */
    private static final class Wear {
        long upper = 0;
        long lower = 1;

        void become(long up, long low) {
            long factor = commonFactor(up, low);
            if (up <= 0 || low <= 0 || factor <= 0) {
                upper = 0;
                lower = 1;
                return;
            }
            upper = up / factor;
            lower = low / factor;
        }

        private static long commonFactor(long a, long b) {
            long x = a;
            long y = b;
            // Euclid needs fewer than 100 steps for any two longs.
            for (int step = 0; step < 100 && y != 0; step++) {
                long rest = x % y;
                x = y;
                y = rest;
            }
            return x;
        }

        int depthFrom(int depth, int lengths) {
            long left = depth * lower - upper * lengths;
            return left <= 0 || lower <= 0 ? 0 : (int) (left / lower);
        }

        int endFrom(int depth, int lengths, int least) {
            if (least <= 0) {
                // DEPTH is 0 at least, so it never falls below such a LEAST.
                return MOST_END;
            }
            if (depth < least) {
                return 0;
            }
            if (upper <= 0) {
                return MOST_END;
            }
            long whole = (depth - least) * lower / upper;
            return (int) Math.max(0L, Math.min((long) MOST_END, whole - lengths));
        }
    }

    private static final class Tyre {
        final int number;
        final int maker;
        final int bought;
        final int[] readLengths = new int[MOST_READINGS];
        final int[] readDepths = new int[MOST_READINGS];
        final Wear loss = new Wear();
        int readings;
        int treads;
        int mends;
        int lengths;
        int where = IN_STORE;
        int back = NONE;

        Tyre(int number, int maker, int bought) {
            this.number = number;
            this.maker = maker;
            this.bought = bought;
        }

        void startTread(int mean) {
            lengths = 0;
            readings = 0;
            addReading(NEW_DEPTH);
            fitWear(mean);
        }

        boolean hasReading(int i) {
            return i >= 0 && i < readings;
        }

        void addReading(int depth) {
            if (readings >= MOST_READINGS) {
                dropSecondReading();
            }
            write(readLengths, readings, lengths);
            write(readDepths, readings, depth);
            readings++;
        }

        private void dropSecondReading() {
            for (int i = 2; i < MOST_READINGS; i++) {
                write(readLengths, i - 1, at(readLengths, i));
                write(readDepths, i - 1, at(readDepths, i));
            }
            readings = MOST_READINGS - 1;
        }

        void fitWear(int mean) {
            long sumX = 0;
            long sumY = 0;
            long sumXX = 0;
            long sumXY = 0;
            for (int i = 0; i < readings; i++) {
                long x = at(readLengths, i);
                long y = at(readDepths, i);
                sumX += x;
                sumY += y;
                sumXX += x * x;
                sumXY += x * y;
            }
            long spread = readings * sumXX - sumX * sumX;
            // The spread is 0 just when all READINGS have like LENGTHS.
            if (spread > 0) {
                loss.become(sumX * sumY - readings * sumXY, spread);
            } else {
                loss.become(mean, MEAN_LENGTHS);
            }
        }

        int depthAfter(int more) {
            return loss.depthFrom(at(readDepths, readings - 1), sinceRead() + more);
        }

        int endFor(int least) {
            return loss.endFrom(at(readDepths, readings - 1), sinceRead(), least);
        }

        private int sinceRead() {
            return lengths - at(readLengths, readings - 1);
        }
    }

    private static final class Wagon {
        final int number;
        private final int[] kinds = new int[MOST_PLACES];
        private final Tyre[] laid = new Tyre[MOST_PLACES];
        int places;

        Wagon(int number) {
            this.number = number;
        }

        boolean hasPlace(int place) {
            return place >= 0 && place < places && place < MOST_PLACES;
        }

        boolean isFull() {
            return places >= MOST_PLACES;
        }

        int addPlace(int kind) {
            int place = places;
            write(kinds, place, kind);
            places = place + 1;
            return place;
        }

        int kindOf(int place) {
            return hasPlace(place) ? at(kinds, place) : NONE;
        }

        Tyre tyreOn(int place) {
            return hasPlace(place) ? laid[place] : null;
        }

        void lay(int place, Tyre t) {
            if (hasPlace(place)) {
                laid[place] = t;
            }
        }

        int spot(int place) {
            return 10 * number + place;
        }

        int pairOf(int place) {
            if (kindOf(place) != TWIN) {
                return NONE;
            }
            int open = NONE;
            for (int p = 0; p < places; p++) {
                if (kindOf(p) != TWIN) {
                    continue;
                }
                if (open == NONE) {
                    open = p;
                    continue;
                }
                if (open == place) {
                    return p;
                }
                if (p == place) {
                    return open;
                }
                open = NONE;
            }
            return NONE;
        }

        int whyUnfit(int[] leasts, int mostApart) {
            for (int p = 0; p < places; p++) {
                int flaw = flawOn(p, leasts, mostApart);
                if (flaw != 0) {
                    return 10 * p + flaw;
                }
            }
            return NONE;
        }

        private int flawOn(int place, int[] leasts, int mostApart) {
            int kind = kindOf(place);
            Tyre t = tyreOn(place);
            if (t == null) {
                return kind == SPARE ? 0 : 1;
            }
            if (kind == STEER && t.treads > 0) {
                return 2;
            }
            int depth = t.depthAfter(0);
            if (depth < at(leasts, kind)) {
                return 3;
            }
            Tyre pair = tyreOn(pairOf(place));
            return pair != null && Math.abs(depth - pair.depthAfter(0)) > mostApart ? 4 : 0;
        }

        int reach(int[] leasts) {
            int reach = MOST_END;
            for (int p = 0; p < places; p++) {
                Tyre t = tyreOn(p);
                if (t != null && kindOf(p) != SPARE) {
                    reach = Math.min(reach, t.endFor(at(leasts, kindOf(p))));
                }
            }
            return reach;
        }

        private Tyre rollingOn(int place, boolean laden) {
            int kind = kindOf(place);
            return kind == SPARE || kind == LIFT && !laden ? null : tyreOn(place);
        }

        int mostLengths(boolean laden) {
            int most = 0;
            for (int p = 0; p < places; p++) {
                Tyre t = rollingOn(p, laden);
                if (t != null) {
                    most = Math.max(most, t.lengths);
                }
            }
            return most;
        }

        void roll(int n, boolean laden) {
            for (int p = 0; p < places; p++) {
                Tyre t = rollingOn(p, laden);
                if (t != null) {
                    t.lengths += n;
                }
            }
        }
    }

    private static final class Log {
        private final int[] days = new int[MOST_LOG];
        private final int[] numbers = new int[MOST_LOG];
        private final int[] spots = new int[MOST_LOG];
        int kept;

        boolean hasRoomFor(int notes) {
            return kept + notes <= MOST_LOG;
        }

        void note(int day, int number, int where) {
            if (kept < MOST_LOG) {
                write(days, kept, day);
                write(numbers, kept, number);
                write(spots, kept, where);
                kept++;
            }
        }

        int whereWas(int number, int day) {
            for (int i = kept - 1; i >= 0; i--) {
                if (at(numbers, i) == number && at(days, i) <= day) {
                    return at(spots, i);
                }
            }
            return NONE;
        }
    }

    /**
     * TURNING ABOUT. Ways are looked at by place and by the set of tyres that earlier places have used up: what the
     * places from there on can reach, or how few changes they need, hangs on these two alone.
     */
    private static final class Turning {
        private static final int CANNOT = -1;
        private static final int EMPTY = -1;
        private static final int MANY = 100;

        private final Tyre[] turned = new Tyre[MOST_PLACES];
        private final int[] ends = new int[MOST_PLACES * MOST_PLACES];
        private final int[] homes = new int[MOST_PLACES];
        private final int[] mustHave = new int[MOST_PLACES];
        private final int[] chosen = new int[MOST_PLACES];
        private final int[] table = new int[(MOST_PLACES + 1) << MOST_PLACES];
        private int tyres;
        private int places;
        int reach;

        boolean findReach(Wagon w, int[] leasts) {
            places = Math.min(w.places, MOST_PLACES);
            gather(w);
            if (tyres == 0) {
                return false;
            }
            for (int p = 0; p < places; p++) {
                weigh(w, p, leasts);
            }
            fillReaches();
            reach = at(table, slot(0, 0));
            return reach != CANNOT;
        }

        int findWay() {
            fillChanges();
            int used = 0;
            for (int p = 0; p < places; p++) {
                int k = choose(p, used);
                write(chosen, p, k);
                used = k == EMPTY ? used : used | 1 << k;
            }
            return at(table, slot(0, 0));
        }

        Tyre chosenFor(int place) {
            return turnedAt(at(chosen, place));
        }

        private Tyre turnedAt(int k) {
            return k >= 0 && k < tyres && k < turned.length ? turned[k] : null;
        }

        /** By their numbers, so that the lesser index is the lesser number. */
        private void gather(Wagon w) {
            tyres = 0;
            for (int p = 0; p < places; p++) {
                Tyre t = w.tyreOn(p);
                if (t != null) {
                    insert(t);
                }
            }
        }

        private void insert(Tyre t) {
            int k = tyres;
            for (; k > 0 && k < turned.length; k--) {
                Tyre before = turned[k - 1];
                if (before == null || before.number < t.number) {
                    break;
                }
                turned[k] = before;
            }
            if (k >= 0 && k < turned.length) {
                turned[k] = t;
                tyres++;
            }
        }

        private void weigh(Wagon w, int place, int[] leasts) {
            int kind = w.kindOf(place);
            Tyre here = w.tyreOn(place);
            write(mustHave, place, here != null && kind != SPARE ? 1 : 0);
            write(homes, place, EMPTY);
            for (int k = 0; k < tyres; k++) {
                Tyre t = turnedAt(k);
                if (t == null) {
                    continue;
                }
                if (t == here) {
                    write(homes, place, k);
                }
                write(ends, place * MOST_PLACES + k, reachOf(t, kind, leasts));
            }
        }

        private static int reachOf(Tyre t, int kind, int[] leasts) {
            if (kind == SPARE) {
                return MOST_END;
            }
            return kind == STEER && t.treads > 0 ? CANNOT : t.endFor(at(leasts, kind));
        }

        private static int slot(int place, int used) {
            return place << MOST_PLACES | used;
        }

        private int allUsed() {
            return (1 << tyres) - 1;
        }

        private static boolean isUsed(int used, int k) {
            return (used >> k & 1) != 0;
        }

        private void fillReaches() {
            int all = allUsed();
            for (int used = 0; used <= all; used++) {
                write(table, slot(places, used), used == all ? MOST_END : CANNOT);
            }
            for (int p = places - 1; p >= 0; p--) {
                for (int used = 0; used <= all; used++) {
                    write(table, slot(p, used), reachFrom(p, used));
                }
            }
        }

        private int reachFrom(int place, int used) {
            int most = at(mustHave, place) == 1 ? CANNOT : at(table, slot(place + 1, used));
            for (int k = 0; k < tyres; k++) {
                if (!isUsed(used, k)) {
                    int rest = at(table, slot(place + 1, used | 1 << k));
                    most = Math.max(most, Math.min(rest, at(ends, place * MOST_PLACES + k)));
                }
            }
            return most;
        }

        private void fillChanges() {
            int all = allUsed();
            for (int used = 0; used <= all; used++) {
                write(table, slot(places, used), used == all ? 0 : MANY);
            }
            for (int p = places - 1; p >= 0; p--) {
                for (int used = 0; used <= all; used++) {
                    write(table, slot(p, used), fewestFrom(p, used));
                }
            }
        }

        private int fewestFrom(int place, int used) {
            int fewest = at(mustHave, place) == 1 ? MANY : at(table, slot(place + 1, used));
            for (int k = 0; k < tyres; k++) {
                fewest = Math.min(fewest, changesWith(place, used, k));
            }
            return fewest;
        }

        private int changesWith(int place, int used, int k) {
            if (isUsed(used, k) || at(ends, place * MOST_PLACES + k) < reach) {
                return MANY;
            }
            int change = at(homes, place) == k ? 0 : 1;
            return change + at(table, slot(place + 1, used | 1 << k));
        }

        private int choose(int place, int used) {
            int fewest = at(table, slot(place, used));
            for (int k = 0; k < tyres; k++) {
                if (changesWith(place, used, k) == fewest) {
                    return k;
                }
            }
            return EMPTY;
        }
    }
}
