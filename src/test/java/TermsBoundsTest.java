/** The sentences of 'Terms' that name a bound or a special case, one test each, on both sides of the bound. */
public final class TermsBoundsTest {
    private static final int STEER = Books.STEER;
    private static final int DRIVE = Books.DRIVE;
    private static final int TWIN = Books.TWIN;
    private static final int LIFT = Books.LIFT;
    private static final int SPARE = Books.SPARE;
    private static final int FIT = -9;
    private static final Check CHECK = new Check();
    private static String sentence = "";

    private static void says(String words) {
        sentence = words;
    }

    private static void due(String what, long got, long want) {
        CHECK.due("'" + sentence + "': " + what, got, want);
    }

    private static void wearIs(String what, TyreBook x, int tyre, long upper, long lower) {
        due(what + ", upper number", x.wear(tyre, 0), upper);
        due(what + ", lower number", x.wear(tyre, 1), lower);
    }

    private static void tyresAre(String what, TyreBook x, int... tyres) {
        for (int p = 0; p < tyres.length; p++) {
            due(what + ": tyre of place " + p, x.placeOf(0, p, 1), tyres[p]);
        }
    }

    private static void days() {
        says("DAYS go on from 0 (2000 at most)");
        TyreBook x = new TyreBook();
        due("the first", x.count(0), 0);
        due("to the last", x.days(2000), 2000);
        due("behind it", x.days(1), -6);
        due("still the last", x.count(0), 2000);
        due("bought on the last", x.buy(0), 0);
        due("its DAY", x.tyreOf(0, 1), 2000);
        due("as of the last", x.asOf(0, 2000), -1);
        due("as of the one ahead", x.asOf(0, 1999), -9);
    }

    private static void wagonsAndPlaces() {
        says("WAGONS have numbers from 0 on (5 at most), each has PLACES from 0 on (7 at most)");
        TyreBook x = new TyreBook();
        for (int w = 0; w < 5; w++) {
            due("wagon", x.wagon(), w);
            for (int p = 0; p < 7; p++) {
                due("place", x.place(w, (w + p) % 5), p);
            }
            due("an eighth place", x.place(w, 0), -6);
        }
        due("a sixth wagon", x.wagon(), -6);
        due("last place of the last wagon", x.placeOf(4, 6, 0), 0);
        x.buy(0);
        due("a tyre there", x.put(0, 4, 6), 1);
        due("where it is", x.tyreOf(0, 6), 46);
        due("as of now", x.asOf(0, 0), 46);
    }

    private static void twins() {
        says("TWINS of a WAGON are paired as they come; a last odd one is without");
        TyreBook x = Books.placesOf(TWIN);
        due("one alone", x.placeOf(0, 0, 2), -9);
        x.place(0, SPARE);
        due("no TWIN came", x.placeOf(0, 0, 2), -9);
        x.place(0, TWIN);
        due("the first with the second", x.placeOf(0, 0, 2), 2);
        due("the second with the first", x.placeOf(0, 2, 2), 0);
        due("a SPARE between", x.placeOf(0, 1, 2), -9);
        TyreBook y = Books.placesOf(TWIN, TWIN, TWIN, TWIN, TWIN, TWIN, TWIN);
        int[] pairs = {1, 0, 3, 2, 5, 4, -9};
        for (int p = 0; p < 7; p++) {
            due("seven of them, place " + p, y.placeOf(0, p, 2), pairs[p]);
        }
        TyreBook z = Books.placesOf(TWIN);
        z.wagon();
        z.place(1, TWIN);
        due("of one WAGON only", z.placeOf(0, 0, 2), -9);
        due("and of the other", z.placeOf(1, 0, 2), -9);
        TyreBook u = Books.placesOf(STEER, DRIVE, LIFT, SPARE, STEER, DRIVE, LIFT);
        for (int p = 0; p < 7; p++) {
            due("other KINDS have no pair", u.placeOf(0, p, 2), -9);
        }
    }

    private static void leasts() {
        says("LEAST of a KIND is 30, 20, 20, 16, 16 at first (0 .. 100)");
        int[] leasts = {30, 20, 20, 16, 16};
        for (int kind = 0; kind < 5; kind++) {
            TyreBook x = Books.laidWith(kind);
            Books.setDepth(x, 0, leasts[kind]);
            due("at LEAST, KIND " + kind, x.why(0), FIT);
            Books.setDepth(x, 0, leasts[kind] - 1);
            due("below LEAST, KIND " + kind, x.why(0), 3);
            x.least(kind, 0);
            Books.setDepth(x, 0, 0);
            due("LEAST 0 and DEPTH 0, KIND " + kind, x.why(0), FIT);
            x.least(kind, 100);
            Books.setDepth(x, 0, 99);
            due("LEAST 100 and DEPTH 99, KIND " + kind, x.why(0), 3);
            Books.setDepth(x, 0, 100);
            due("LEAST 100 and DEPTH 100, KIND " + kind, x.why(0), FIT);
        }
    }

    private static int whyApart(int apart, int difference) {
        TyreBook x = Books.laidWith(TWIN, TWIN);
        if (apart != 20) {
            x.apart(apart);
        }
        Books.setDepth(x, 1, 180 - difference);
        return x.why(0);
    }

    private static void apart() {
        says("APART, for all TWINS, 20 at first (0 .. 100)");
        int[] aparts = {20, 0, 1, 100};
        for (int apart : aparts) {
            due("APART " + apart + " and as much", whyApart(apart, apart), FIT);
            due("APART " + apart + " and one more", whyApart(apart, apart + 1), 4);
            due("APART " + apart + " and the other deeper", whyApart(apart, -apart), FIT);
            due("APART " + apart + " and the other deeper by one more", whyApart(apart, -apart - 1), 4);
        }
        TyreBook x = Books.laidWith(TWIN, TWIN);
        x.wagon();
        x.place(1, TWIN);
        x.place(1, TWIN);
        x.buy(0);
        x.buy(0);
        x.put(2, 1, 0);
        x.put(3, 1, 1);
        Books.setDepth(x, 3, 175);
        x.apart(4);
        due("of another WAGON, too", x.why(1), 4);
        x.apart(5);
        due("and just as much there", x.why(1), FIT);
    }

    private static void means() {
        says("MAKERS 0 .. 3 have a MEAN (0 .. 1000; 100 at first)");
        TyreBook x = new TyreBook();
        int[] own = {501, 503, 507, 509};
        for (int m = 0; m < 4; m++) {
            x.buy(m);
            wearIs("at first, MAKER " + m, x, m, 1, 1000);
            x.maker(m, 1000);
            wearIs("1000, MAKER " + m, x, m, 1, 100);
            x.maker(m, 1);
            wearIs("1, MAKER " + m, x, m, 1, 100000);
            x.maker(m, 999);
            wearIs("999, MAKER " + m, x, m, 999, 100000);
            x.maker(m, 0);
            wearIs("0, MAKER " + m, x, m, 0, 1);
            x.maker(m, own[m]);
        }
        for (int m = 0; m < 4; m++) {
            wearIs("each its own, MAKER " + m, x, m, own[m], 100000);
        }
        for (int m = 0; m < 4; m++) {
            due("each its own, MAKER " + m, x.maker(m, 0), own[m]);
        }
    }

    private static void newTyres() {
        says("TREADS (0 at first: new), MENDS (0), LENGTHS since its tread was new; a new tread has a READING at LENGTHS 0: 180");
        TyreBook x = Books.onDay(7);
        x.buy(2);
        int[] due = {2, 7, 0, 0, 0, 1, -1, 180, -9};
        for (int what = 0; what < due.length; what++) {
            due("tyreOf(1, " + what + ")", x.tyreOf(1, what), due[what]);
        }
        due("LENGTHS of its READING", x.reading(1, 0, 0), 0);
        due("depth of its READING", x.reading(1, 0, 1), 180);
        due("no second READING", x.reading(1, 1, 0), -9);

        says("TYRES have numbers from 0 on (40 at most are ever bought)");
        TyreBook y = Books.bought(39);
        y.cast(0);
        due("the 40th", y.buy(0), 39);
        y.cast(39);
        due("a 41st, though two are CAST", y.buy(0), -6);
        due("TYRES", y.count(2), 40);
    }

    private static void readings() {
        says("READINGS of that tread (12 at most; the eldest but the first goes, when a 13th comes)");
        TyreBook x = Books.laidWith(DRIVE);
        for (int i = 1; i < 12; i++) {
            x.go(0, 10, true);
            due("READING " + (i + 1), x.read(0, 180 - i), i + 1);
        }
        for (int i = 0; i < 12; i++) {
            due("12 are kept, LENGTHS of " + i, x.reading(0, i, 0), 10 * i);
            due("12 are kept, depth of " + i, x.reading(0, i, 1), 180 - i);
        }
        due("no 13th", x.reading(0, 12, 0), -9);
        for (int more = 1; more <= 13; more++) {
            x.go(0, 10, true);
            due("still 12", x.read(0, 169 - more), 12);
            due("tyreOf", x.tyreOf(0, 5), 12);
            due("the first stays", x.reading(0, 0, 0), 0);
            due("its depth", x.reading(0, 0, 1), 180);
            for (int i = 1; i < 12; i++) {
                due("LENGTHS of " + i + ", " + more + " more", x.reading(0, i, 0), 10 * (i + more));
                due("depth of " + i + ", " + more + " more", x.reading(0, i, 1), 180 - i - more);
            }
        }
        due("no 13th then", x.reading(0, 12, 1), -9);
    }

    private static void oneTyreOnAPlace() {
        says("a PLACE has one TYRE at most");
        TyreBook x = Books.laidWith(SPARE, DRIVE);
        x.buy(0);
        due("put onto a SPARE that has one", x.put(2, 0, 0), -2);
        x.take(0, 0);
        due("put onto it when it is empty", x.put(2, 0, 0), 1);
        due("on PLACES", x.count(4), 2);
        due("in the STORE", x.count(3), 1);
    }

    private static void wearByReadings() {
        says("if two of them have unlike LENGTHS .. else MEAN by 100000");
        TyreBook x = Books.laidWith(DRIVE, DRIVE);
        for (int i = 0; i < 20; i++) {
            x.read(0, 180 - 8 * i);
        }
        wearIs("many READINGS at like LENGTHS", x, 0, 1, 1000);
        x.maker(0, 300);
        wearIs("MEAN of now", x, 0, 3, 1000);
        x.go(0, 1, true);
        wearIs("gone, but not read", x, 1, 3, 1000);
        x.read(1, 179);
        wearIs("unlike by 1", x, 1, 1, 1);
        x.maker(0, 0);
        wearIs("MEAN counts no more", x, 1, 1, 1);
        TyreBook y = Books.laidWith(DRIVE);
        y.go(0, 1, true);
        y.read(0, 0);
        wearIs("the steepest", y, 0, 180, 1);

        says("0 if it is below 0 then; 0 is 0 by 1");
        int[] depths = {300, 181, 180, 179, 0};
        int[] uppers = {0, 0, 0, 1, 9};
        int[] lowers = {1, 1, 1, 1000, 50};
        for (int i = 0; i < depths.length; i++) {
            TyreBook z = Books.laidWith(DRIVE);
            z.go(0, 1000, true);
            z.read(0, depths[i]);
            wearIs("read " + depths[i], z, 0, uppers[i], lowers[i]);
        }
    }

    private static void wearOfManyReadings() {
        says("(n times the sum of xy less the sum of x times the sum of y) by (n times the sum of xx less the square of ..)");
        TyreBook x = Books.laidWith(DRIVE);
        x.maker(0, 0);
        x.least(DRIVE, 0);
        for (int i = 0; i < 89; i++) {
            x.go(0, 10000, true);
        }
        for (int i = 0; i < 11; i++) {
            x.go(0, 10000, true);
            x.read(0, 0);
        }
        // x: 0 and 900000 to 1000000; y: 180 and eleven times 0. By units of 10000: sum x 1045, xx 99385.
        // Upper 1045 * 180 = 188100; lower 12 * 99385 - 1045 * 1045 = 100595; both by 55: 3420 by 1829, by 10000 units.
        wearIs("twelve READINGS up to LENGTHS 1000000", x, 0, 171, 914500);
        due("DEPTH stays 0", x.depth(0, 1000000), 0);

        says("As a fraction without common factor, the lower number above 0");
        TyreBook y = Books.laidWith(DRIVE);
        y.go(0, 7, true);
        y.read(0, 170);
        wearIs("10 in 7", y, 0, 10, 7);
        y.go(0, 7, true);
        y.read(0, 150);
        // (0,180) (7,170) (14,150): n 3, x 21, y 500, xy 3290, xx 245: 630 by 294.
        wearIs("630 by 294", y, 0, 15, 7);
    }

    private static void depths() {
        says("DEPTH: latest READING less WEAR times (z less the LENGTHS of that READING), cut down to a whole number, 0 at least");
        TyreBook x = Books.laidWith(DRIVE);
        x.go(0, 7, true);
        x.read(0, 170);
        int[] more = {0, 1, 6, 7, 8, 14, 118, 119, 120, 1000000};
        int[] due = {170, 168, 161, 160, 158, 150, 1, 0, 0, 0};
        for (int i = 0; i < more.length; i++) {
            due("10 in 7, " + more[i] + " more", x.depth(0, more[i]), due[i]);
        }
        x.go(0, 6, true);
        due("of now", x.tyreOf(0, 7), 161);
        due("of now by depth", x.depth(0, 0), 161);
        due("one more than now", x.depth(0, 1), 160);
        TyreBook steep = Books.laidWith(DRIVE);
        steep.go(0, 1, true);
        steep.read(0, 179);
        due("1 in 1, all but 1", steep.depth(0, 178), 1);
        due("1 in 1, all", steep.depth(0, 179), 0);
        due("1 in 1, more than all", steep.depth(0, 180), 0);

        TyreBook y = Books.laidWith(DRIVE);
        y.go(0, 1000, true);
        y.read(0, 100);
        y.read(0, 300);
        due("of two at like LENGTHS the latest", y.depth(0, 0), 300);
        y.read(0, 0);
        due("a READING of 0", y.depth(0, 0), 0);
        // (0,180) (1000,100) (1000,300) (1000,0): the line falls from 180 to 400 / 3.
        wearIs("all four count for WEAR", y, 0, 7, 150);
    }

    private static void ends() {
        says("END for a LEAST: how many LENGTHS more it can run (0 if it is less already; 1000000 at most)");
        TyreBook x = Books.laidWith(DRIVE);
        x.go(0, 7, true);
        x.read(0, 170);
        int[] leasts = {171, 170, 169, 168, 160, 1, 300};
        int[] due = {0, 0, 0, 1, 7, 118, 0};
        for (int i = 0; i < leasts.length; i++) {
            due("10 in 7 to " + leasts[i], x.end(0, leasts[i]), due[i]);
        }
        due("to 0: DEPTH is never below", x.end(0, 0), 1000000);
        x.go(0, 5, true);
        due("behind 5 of 7", x.end(0, 160), 2);
        x.go(0, 2, true);
        due("behind 7 of 7", x.end(0, 160), 0);
        x.go(0, 1, true);
        due("behind 8 of 7", x.end(0, 160), 0);
        due("to 1", x.end(0, 1), 110);

        TyreBook y = Books.bought(1);
        int[] means = {15, 16, 17, 0, 1};
        int[] far = {1000000, 1000000, 941176, 1000000, 1000000};
        for (int i = 0; i < means.length; i++) {
            y.maker(0, means[i]);
            due("160 to lose, MEAN " + means[i], y.end(0, 20), far[i]);
        }
        due("DEPTH is LEAST, MEAN 1", y.end(0, 180), 0);
        y.maker(0, 0);
        due("DEPTH is LEAST, no WEAR", y.end(0, 180), 1000000);
        due("less already, no WEAR", y.end(0, 181), 0);
        y.read(0, 0);
        due("DEPTH 0 to 0", y.end(0, 0), 1000000);
        y.maker(0, 1000);
        due("DEPTH 0 to 0, though it wears", y.end(0, 0), 1000000);
        due("DEPTH 0 to 1", y.end(0, 1), 0);
    }

    private static void endAgreesWithDepth() {
        says("END for a LEAST: DEPTH being that LEAST or more");
        for (int mean : new int[] {3, 7, 99, 100, 333, 1000}) {
            TyreBook x = Books.laidWith(DRIVE);
            x.maker(0, mean);
            x.go(0, 777, true);
            for (int least = 1; least <= 179; least += 13) {
                int end = x.end(0, least);
                due("MEAN " + mean + ", at END for " + least, x.depth(0, end) >= least ? 1 : 0, 1);
                boolean behind = end < 1000000 && x.depth(0, end + 1) >= least;
                due("MEAN " + mean + ", behind END for " + least, behind ? 1 : 0, 0);
            }
        }
    }

    private static void going() {
        says("each TYRE on its PLACES but SPARES (and LIFTS, if it is not laden) has n LENGTHS more");
        for (int n : new int[] {1, 10000}) {
            TyreBook x = Books.laidWith(STEER, DRIVE, TWIN, TWIN, LIFT, SPARE);
            x.buy(0);
            x.wagon();
            x.place(1, DRIVE);
            x.put(6, 1, 0);
            x.buy(0);
            x.go(0, n, true);
            int[] laden = {1, 1, 1, 1, 1, 0, 0, 0};
            for (int t = 0; t < 8; t++) {
                due("laden, tyre " + t, x.tyreOf(t, 4), (long) laden[t] * n);
            }
            x.go(0, n, false);
            int[] light = {2, 2, 2, 2, 1, 0, 0, 0};
            for (int t = 0; t < 8; t++) {
                due("not laden, tyre " + t, x.tyreOf(t, 4), (long) light[t] * n);
            }
            due("no READING of it", x.tyreOf(0, 5), 1);
        }
        says("It may only if it is FIT");
        TyreBook y = Books.laidWith(DRIVE);
        Books.setDepth(y, 0, 21);
        due("to its LEAST", y.go(0, 1000, true), 0);
        due("FIT at LEAST", y.why(0), FIT);
        due("one length more", y.go(0, 1, true), 0);
        due("below then", y.why(0), 3);
        due("no more", y.go(0, 1, true), -2);
        due("LENGTHS", y.tyreOf(0, 4), 1001);
        TyreBook z = Books.laidWith(DRIVE);
        Books.setDepth(z, 0, 21);
        due("beyond its LEAST in one go", z.go(0, 10000, true), 0);
        due("DEPTH then", z.tyreOf(0, 7), 11);
    }

    private static void fitWithoutTyre() {
        says("1 it has no TYRE (SPARES may be empty)");
        for (int kind = 0; kind < 5; kind++) {
            TyreBook x = Books.placesOf(SPARE, kind);
            due("empty, KIND " + kind, x.why(0), kind == SPARE ? FIT : 11);
            x.buy(0);
            x.put(0, 0, 1);
            due("with one, KIND " + kind, x.why(0), FIT);
        }
        due("no PLACES", Books.wagons(1).why(0), FIT);

        says("2 a STEER whose TYRE has TREADS");
        for (int kind = 0; kind < 5; kind++) {
            TyreBook x = Books.laidWith(kind);
            due("new, KIND " + kind, x.why(0), FIT);
            Books.treadOn(x, 0);
            due("TREADS 1, KIND " + kind, x.why(0), kind == STEER ? 2 : FIT);
            Books.treadOn(x, 0);
            due("TREADS 2, KIND " + kind, x.why(0), kind == STEER ? 2 : FIT);
        }
    }

    private static void fitPairs() {
        says("4 a TWIN whose pair has a TYRE, too, and the DEPTHS are more than APART apart");
        TyreBook x = Books.laidWith(TWIN, TWIN, TWIN, TWIN, TWIN);
        Books.setDepth(x, 4, 20);
        due("the odd one", x.why(0), FIT);
        Books.setDepth(x, 2, 100);
        due("the second pair", x.why(0), 24);
        Books.setDepth(x, 3, 100);
        due("pairs only among themselves", x.why(0), FIT);
        x.take(0, 1);
        Books.setDepth(x, 0, 50);
        due("whose pair has none", x.why(0), 11);
        TyreBook y = Books.laidWith(DRIVE, DRIVE, LIFT, LIFT, STEER, STEER, SPARE);
        Books.setDepth(y, 1, 20);
        Books.setDepth(y, 3, 16);
        Books.setDepth(y, 5, 30);
        due("other KINDS may be far apart", y.why(0), FIT);
        TyreBook z = Books.laidWith(TWIN, TWIN);
        z.go(0, 10000, true);
        z.read(1, 150);
        due("by DEPTH of now: 170 and 150", z.why(0), FIT);
        z.apart(30);
        z.go(0, 5000, true);
        // 180 less 15, and 150 less 3 by 1000 times 5000.
        due("165 and 135", z.why(0), FIT);
        z.apart(29);
        due("30 are more than 29", z.why(0), 4);
        TyreBook u = Books.laidWith(TWIN, TWIN);
        u.apart(0);
        u.go(0, 1, true);
        u.read(0, 179);
        due("179 and 179 (180 less 1 by 1000, cut down)", u.why(0), FIT);
        u.go(0, 1000, true);
        u.read(0, 178);
        due("178 and 178 (180 less 1001 by 1000, cut down)", u.why(0), FIT);
    }

    private static void fitOrder() {
        says("FIT: of its PLACES, by numbers; 10 times the PLACE and the first of them");
        TyreBook x = Books.laidWith(STEER, TWIN, TWIN, DRIVE, DRIVE, DRIVE, DRIVE);
        x.take(0, 6);
        due("the last PLACE", x.why(0), 61);
        Books.setDepth(x, 5, 0);
        due("one ahead of it", x.why(0), 53);
        Books.setDepth(x, 2, 10);
        due("the first of a pair tells 4 ahead of the second's 3", x.why(0), 14);
        Books.setDepth(x, 1, 10);
        due("3 ahead of 4 of the same PLACE", x.why(0), 13);
        Books.setDepth(x, 1, 19);
        Books.setDepth(x, 2, 100);
        due("3 ahead of 4, which both hold", x.why(0), 13);
        Books.treadOn(x, 0);
        due("2 on PLACE 0", x.why(0), 2);
        Books.setDepth(x, 0, 0);
        due("2 ahead of 3 of the same PLACE", x.why(0), 2);
        x.take(0, 0);
        due("1 on PLACE 0", x.why(0), 1);
    }

    private static void far() {
        says("FAR: the least END of TYRES on its PLACES but SPARES for their LEASTS; 1000000 without any");
        int[] far = {150000, 160000, 160000, 164000, 1000000};
        for (int kind = 0; kind < 5; kind++) {
            TyreBook x = Books.placesOf(kind);
            due("no TYRE, KIND " + kind, x.far(0), 1000000);
            x.buy(0);
            x.put(0, 0, 0);
            due("a new one, KIND " + kind, x.far(0), far[kind]);
            Books.setDepth(x, 0, 0);
            due("a worn one, KIND " + kind, x.far(0), kind == SPARE ? 1000000 : 0);
            x.least(kind, 0);
            due("LEAST 0, KIND " + kind, x.far(0), 1000000);
        }
        due("no PLACES", Books.wagons(1).far(0), 1000000);
        TyreBook y = Books.laidWith(LIFT, DRIVE, STEER, DRIVE);
        Books.setDepth(y, 3, 49);
        due("the last is the least", y.far(0), 29000);
        Books.setDepth(y, 0, 44);
        due("the first is the least", y.far(0), 28000);
        y.take(0, 2);
        due("an empty PLACE does not count", y.far(0), 28000);
        y.maker(0, 0);
        due("1000000 at most", y.far(0), 1000000);
    }

    private static void turnCannot() {
        says("no STEER with TREADS, unless there was no other way to have none: then none is turned");
        TyreBook x = Books.laidWith(STEER, STEER, DRIVE);
        Books.treadOn(x, 1);
        Books.treadOn(x, 2);
        due("two STEERS and one TYRE without TREADS", x.turn(0), -2);
        due("nor best", x.best(0), -2);
        tyresAre("none is turned", x, 0, 1, 2);
        TyreBook y = Books.laidWith(STEER, STEER, DRIVE);
        Books.treadOn(y, 1);
        Books.setDepth(y, 2, 31);
        due("two STEERS and two TYRES without TREADS", y.turn(0), 2);
        tyresAre("the worn one steers", y, 0, 2, 1);
        due("FAR then", y.far(0), 1000);
        TyreBook z = Books.laidWith(STEER, DRIVE);
        Books.treadOn(z, 1);
        Books.setDepth(z, 0, 40);
        due("FAR would be greater with TREADS on the STEER", z.turn(0), 0);
        due("best, too", z.best(0), 10000);
        TyreBook u = Books.laidWith(STEER, SPARE);
        u.take(0, 0);
        Books.treadOn(u, 1);
        due("an empty STEER, and TREADS on the SPARE", u.turn(0), 0);
        due("best of SPARES alone", u.best(0), 1000000);
        TyreBook v = Books.placesOf(STEER, SPARE);
        due("no TYRES", v.turn(0), -2);
        v.buy(0);
        v.put(0, 0, 1);
        due("one TYRE on a SPARE", v.turn(0), 0);
    }

    private static void turnEmptyPlaces() {
        says("PLACES that are empty may get a TYRE, others become empty, but of those that are no SPARES none that had one");
        TyreBook x = Books.placesOf(LIFT, STEER, SPARE);
        x.buy(0);
        x.buy(0);
        x.put(0, 0, 1);
        x.put(1, 0, 2);
        Books.setDepth(x, 0, 100);
        Books.setDepth(x, 1, 110);
        // Tyre 1 steers for 80000; tyre 0 lasts 84000 on the empty LIFT, and does not count on the SPARE.
        due("turn", x.turn(0), 2);
        tyresAre("the empty LIFT got one, the SPARE became empty", x, 0, 1, -9);
        TyreBook y = Books.placesOf(LIFT, STEER, SPARE);
        y.buy(0);
        y.buy(0);
        y.put(0, 0, 1);
        y.put(1, 0, 2);
        Books.setDepth(y, 0, 95);
        Books.setDepth(y, 1, 110);
        // Now tyre 0 lasts only 79000 on the LIFT, so that FAR is greater with it on the SPARE.
        due("turn", y.turn(0), 2);
        tyresAre("the LIFT stays empty", y, -9, 1, 0);
        TyreBook z = Books.laidWith(DRIVE);
        z.place(0, SPARE);
        z.place(0, LIFT);
        Books.setDepth(z, 0, 10);
        due("a DRIVE that had one", z.turn(0), 0);
        tyresAre("it does not become empty", z, 0, -9, -9);
        due("though it lasts no more", z.best(0), 0);
    }

    private static void turnFewest() {
        says("of several ways the one with the fewest TYRES that change their PLACE");
        TyreBook x = Books.laidWith(DRIVE, DRIVE, DRIVE, DRIVE);
        x.swap(0, 0, 0, 3);
        due("all alike", x.turn(0), 0);
        tyresAre("as they were", x, 3, 1, 2, 0);
        TyreBook y = Books.laidWith(STEER, LIFT, LIFT, LIFT);
        Books.setDepth(y, 0, 50);
        Books.setDepth(y, 2, 51);
        Books.setDepth(y, 3, 65);
        // FAR 34000 needs 0 on a LIFT and 64 or more on the STEER; two ways with two changes: tyre 1 or tyre 3 steers.
        due("two change", y.turn(0), 2);
        tyresAre("of two the lesser number", y, 1, 0, 2, 3);
        due("FAR", y.far(0), 34000);
        TyreBook z = Books.laidWith(SPARE, STEER, LIFT);
        Books.setDepth(z, 0, 70);
        Books.setDepth(z, 1, 60);
        Books.setDepth(z, 2, 50);
        // On the STEER 70 lasts 40000; the LIFT's 50 lasts 34000, 60 lasts 44000: a ring of three is the greatest.
        due("three change", z.turn(0), 3);
        tyresAre("the ring", z, 2, 0, 1);
        due("FAR of the ring", z.far(0), 40000);
    }

    private static void turnLesserNumber() {
        says("of several the one whose first PLACE that differs has the TYRE of the lesser number (an empty PLACE behind all)");
        TyreBook x = Books.placesOf(DRIVE, SPARE, SPARE, SPARE);
        for (int i = 0; i < 3; i++) {
            x.buy(0);
        }
        x.put(0, 0, 0);
        x.put(2, 0, 1);
        x.put(1, 0, 3);
        Books.setDepth(x, 0, 30);
        due("turn", x.turn(0), 2);
        tyresAre("tyre 1 ahead of 2; tyre 0 on the first empty SPARE", x, 1, 2, 0, -9);
        TyreBook y = Books.placesOf(SPARE, DRIVE, SPARE);
        y.buy(0);
        y.buy(0);
        y.put(0, 0, 1);
        y.put(1, 0, 2);
        Books.setDepth(y, 0, 30);
        due("turn", y.turn(0), 2);
        tyresAre("tyre 0 on the SPARE ahead, not on that of tyre 1", y, 0, 1, -9);
        TyreBook z = Books.placesOf(DRIVE, SPARE, SPARE);
        z.buy(0);
        z.buy(0);
        z.put(1, 0, 0);
        z.put(0, 0, 2);
        Books.setDepth(z, 1, 30);
        due("turn", z.turn(0), 2);
        tyresAre("an empty PLACE behind tyre 1", z, 0, 1, -9);
        TyreBook u = Books.placesOf(SPARE, DRIVE, SPARE);
        for (int i = 0; i < 3; i++) {
            u.buy(0);
        }
        u.put(2, 0, 0);
        u.put(0, 0, 1);
        u.put(1, 0, 2);
        Books.setDepth(u, 0, 30);
        due("turn", u.turn(0), 2);
        tyresAre("PLACE 0 differs first: tyre 0 ahead of tyre 2, though tyre 1 would be lesser on the DRIVE", u, 0, 2, 1);
    }

    private static void turnWholeWagon() {
        says("the TYRES that are on a WAGON's PLACES (all of them) are laid onto those PLACES anew, one on each");
        TyreBook x = Books.laidWith(STEER, LIFT, STEER, LIFT, STEER, LIFT, SPARE);
        for (int t = 0; t < 7; t++) {
            Books.setDepth(x, t, 40 + 10 * t);
        }
        // With 40 on the SPARE the LIFT's 50 lasts 34000; so must the STEERS' (64 or more), and 60 goes onto a LIFT.
        due("best", x.best(0), 34000);
        due("turn", x.turn(0), 4);
        due("FAR", x.far(0), 34000);
        tyresAre("all seven", x, 3, 1, 6, 2, 4, 5, 0);
        due("on PLACES", x.count(4), 7);
        for (int p = 0; p < 7; p++) {
            due("where it is, place " + p, x.tyreOf(x.placeOf(0, p, 1), 6), p);
        }
        due("again", x.turn(0), 0);
    }

    private static void treader() {
        says("a TYRE from the STORE with TREADS below 2 and MENDS below 3 is sent there; 10 DAYS later it is back");
        TyreBook x = Books.laidWith(DRIVE);
        x.go(0, 1000, true);
        x.read(0, 165);
        x.read(0, 170);
        x.take(0, 0);
        x.mend(0);
        x.mend(0);
        due("sent", x.send(0), 10);
        x.days(9);
        int[] there = {0, 0, 0, 2, 1000, 3, -2, 170, 10};
        for (int what = 0; what < there.length; what++) {
            due("behind 9 DAYS, tyreOf(0, " + what + ")", x.tyreOf(0, what), there[what]);
        }
        x.days(1);
        int[] back = {0, 0, 1, 2, 0, 1, -1, 180, -9};
        for (int what = 0; what < back.length; what++) {
            due("behind 10 DAYS, tyreOf(0, " + what + ")", x.tyreOf(0, what), back[what]);
        }
        due("LENGTHS of the READING", x.reading(0, 0, 0), 0);
        due("depth of the READING", x.reading(0, 0, 1), 180);
        due("no other", x.reading(0, 1, 0), -9);
        wearIs("by MEAN", x, 0, 1, 1000);
        due("TREADS 1 and MENDS 2", x.send(0), 20);
        x.days(1000);
        due("TREADS 2", x.tyreOf(0, 2), 2);
        due("only once for 1000 DAYS", x.count(7), 7);
        due("no third time", x.send(0), -2);
        x.put(0, 0, 0);
        x.go(0, 500, true);
        x.read(0, 175);
        wearIs("the old tread's READINGS count no more", x, 0, 1, 100);

        says("10 DAYS later it is back in the STORE: each of them");
        TyreBook all = Books.bought(40);
        for (int t = 0; t < 40; t++) {
            all.send(t);
        }
        due("all 40 are there", all.count(5), 40);
        all.days(9);
        due("still", all.count(5), 40);
        all.days(1);
        due("all 40 are back", all.count(3), 40);
        TyreBook one = Books.bought(40);
        for (int t = 39; t >= 0; t--) {
            one.send(t);
            one.days(1);
        }
        due("one a DAY, on DAY 40 those that were sent since 31", one.count(5), 9);
        one.days(8);
        due("on DAY 48 the last one", one.count(5), 1);
        due("that was sent on DAY 39", one.tyreOf(0, 8), 49);
        one.days(1);
        due("on DAY 49 none", one.count(5), 0);

        says("that DAY above 2000");
        TyreBook y = Books.onDay(1989);
        y.buy(0);
        due("back on 1999", y.send(0), 1999);
        y.days(1);
        due("back on 2000", y.send(1), 2000);
        y.days(9);
        due("at the treader's", y.count(5), 1);
        y.days(1);
        due("the last is back", y.count(5), 0);
        due("as of the last DAY", y.asOf(1, 2000), -1);
        due("as of the one ahead", y.asOf(1, 1999), -2);
    }

    private static void castForGood() {
        says("CAST is it for good");
        TyreBook x = Books.placesOf(DRIVE);
        x.buy(0);
        x.cast(0);
        due("put", x.put(0, 0, 0), -2);
        due("send", x.send(0), -2);
        due("mend", x.mend(0), -2);
        due("read", x.read(0, 100), -2);
        due("cast", x.cast(0), -2);
        x.days(2000);
        due("where", x.tyreOf(0, 6), -3);
        due("CAST", x.count(6), 1);
        due("DEPTH is still told", x.depth(0, 0), 180);
    }

    private static void logOfEachAct() {
        says("LOG: each act that changes a PLACE of a TYRE writes for each TYRE that changed where it is");
        TyreBook x = new TyreBook();
        x.wagon();
        x.place(0, STEER);
        x.place(0, LIFT);
        x.place(0, SPARE);
        due("no TYRE", x.count(7), 0);
        x.buy(0);
        due("bought", x.count(7), 1);
        x.buy(0);
        x.put(0, 0, 0);
        due("put", x.count(7), 3);
        x.put(1, 0, 1);
        x.swap(0, 0, 0, 1);
        due("two swapped", x.count(7), 6);
        x.swap(0, 0, 0, 2);
        due("one swapped", x.count(7), 7);
        x.take(0, 1);
        due("taken", x.count(7), 8);
        x.send(0);
        due("sent", x.count(7), 9);
        x.days(9);
        due("not back", x.count(7), 9);
        x.days(1);
        due("back", x.count(7), 10);
        x.cast(0);
        due("cast", x.count(7), 11);
        x.swap(0, 2, 0, 0);
        x.buy(0);
        x.put(2, 0, 1);
        due("three more", x.count(7), 14);
        x.turn(0);
        due("none turned about", x.count(7), 14);
        Books.setDepth(x, 1, 40);
        due("two turned about", x.turn(0), 2);
        due("both are written", x.count(7), 16);
        x.go(0, 10, true);
        x.mend(2);
        x.best(0);
        x.put(9, 9, 9);
        due("nothing else writes", x.count(7), 16);
    }

    private static void asOf() {
        says("AS OF a DAY: where it was behind all acts of that DAY (-9 ahead of the one on which it was bought)");
        TyreBook x = Books.placesOf(DRIVE, DRIVE);
        x.days(4);
        x.buy(0);
        x.put(0, 0, 0);
        x.swap(0, 0, 0, 1);
        due("ahead", x.asOf(0, 3), -9);
        due("far ahead", x.asOf(0, 0), -9);
        due("the last act of the DAY", x.asOf(0, 4), 1);
        x.days(2);
        due("a DAY without acts", x.asOf(0, 5), 1);
        due("now, without acts", x.asOf(0, 6), 1);
        x.take(0, 1);
        x.put(0, 0, 0);
        due("now", x.asOf(0, 6), 0);
        due("the DAY ahead is as it was", x.asOf(0, 5), 1);
        due("behind now", x.asOf(0, 7), -16);
        x.buy(0);
        due("another TYRE, bought today", x.asOf(1, 6), -1);
        due("and ahead", x.asOf(1, 5), -9);
        TyreBook y = Books.onDay(0);
        due("bought on DAY 0", y.asOf(0, 0), -1);
        y.send(0);
        y.days(10);
        y.cast(0);
        due("back and cast on one DAY", y.asOf(0, 10), -3);
        due("the DAY ahead", y.asOf(0, 9), -2);
    }

    private static void fullLog() {
        says("600 are kept; behind that no act that would write one is done (ROOM)");
        TyreBook x = Books.withLog(599);
        due("ahead of the 600th", x.count(7), 599);
        due("the 600th", x.buy(0), 3);
        due("LOG", x.count(7), 600);
        due("it is told", x.asOf(3, 0), -1);
        due("a 601st", x.buy(0), -6);
        due("LOG still", x.count(7), 600);
        due("no TYRE was bought", x.count(2), 4);
        due("a WAGON writes none", x.wagon(), 1);
        due("a PLACE writes none", x.place(1, 0), 0);
        due("GOING is not FIT", x.go(0, 1, true), -2);
        due("a READING writes none", x.read(2, 170), 2);
        due("MENDING writes none", x.mend(2), 1);
        due("TURNING none writes none", x.turn(0), 0);
        due("a DAY writes none", x.days(1), 1);
        due("as of now", x.asOf(3, 1), -1);

        says("As a DAY passes those that are back are written always; what is not kept is not told as of");
        TyreBook y = Books.withLog(599);
        y.send(2);
        due("full", y.count(7), 600);
        y.days(10);
        due("it is back", y.tyreOf(2, 6), -1);
        due("with a new tread", y.tyreOf(2, 2), 1);
        due("in the STORE", y.count(3), 1);
        due("600 are kept", y.count(7), 600);
        due("not told", y.asOf(2, 10), -2);
        TyreBook z = Books.withLog(598);
        z.send(2);
        z.days(10);
        due("with room for one it is kept", z.count(7), 600);
        due("and told", z.asOf(2, 10), -1);
        due("ahead of it", z.asOf(2, 9), -2);
        TyreBook u = Books.withLog(596);
        int lesser = u.take(0, 0);
        u.send(2);
        u.days(1);
        u.send(lesser);
        due("two are there, room for one", u.count(7), 599);
        u.days(20);
        due("both are back", u.count(5), 0);
        due("the one of the earlier DAY is kept", u.asOf(2, 10), -1);
        due("not the one of the later DAY", u.asOf(lesser, 21), -2);
        due("where that is", u.tyreOf(lesser, 6), -1);
        TyreBook v = Books.withLog(596);
        int first = v.take(0, 0);
        v.send(first);
        v.days(1);
        v.send(2);
        v.days(20);
        due("the lesser number, of the earlier DAY", v.asOf(first, 10), -1);
        due("the greater number, of the later DAY", v.asOf(2, 21), -2);
    }

    private static void few() {
        says("few: each TYRE being taken off when its END is there (new ones have 180 and MEAN)");
        int[] lengths = {0, 1, 60000, 60001, 220000, 220001, 380000, 380001, 1000000};
        int[] due = {0, 0, 0, 1, 1, 2, 2, 3, 6};
        TyreBook x = Books.laidWith(DRIVE);
        Books.setDepth(x, 0, 80);
        for (int i = 0; i < lengths.length; i++) {
            due("n " + lengths[i], x.few(0, 0, lengths[i]), due[i]);
        }
        Books.setDepth(x, 0, 10);
        due("below its LEAST, n 0", x.few(0, 0, 0), 0);
        due("below its LEAST, n 1", x.few(0, 0, 1), 1);
        x.maker(3, 0);
        due("new ones that do not wear", x.few(0, 3, 1000000), 1);
        x.maker(3, 1000);
        x.least(DRIVE, 100);
        due("the shortest: 8000 each", x.few(0, 3, 1000000), 125);
        x.least(DRIVE, 0);
        due("LEAST 0", x.few(0, 3, 1000000), 0);

        says("few: empty PLACES get one at once .. an empty PLACE takes one at least; but SPARES");
        for (int kind = 0; kind < 5; kind++) {
            TyreBook y = Books.placesOf(kind);
            due("KIND " + kind + ", n 0", y.few(0, 0, 0), kind == SPARE ? 0 : 1);
            due("KIND " + kind + ", n 1", y.few(0, 0, 1), kind == SPARE ? 0 : 1);
            int[] first = {150000, 160000, 160000, 164000, 1000000};
            due("KIND " + kind + ", all of the first", y.few(0, 0, first[kind]), kind == SPARE ? 0 : 1);
            due("KIND " + kind + ", one more", y.few(0, 0, Math.min(1000000, first[kind] + 1)), kind == SPARE ? 0 : 2);
            y.least(kind, 0);
            due("KIND " + kind + ", LEAST 0", y.few(0, 0, 1000000), kind == SPARE ? 0 : 1);
        }
        due("no PLACES", Books.wagons(1).few(0, 0, 1000000), 0);
        TyreBook z = Books.laidWith(SPARE, DRIVE);
        Books.setDepth(z, 0, 0);
        due("a worn SPARE needs none", z.few(0, 0, 160000), 0);
    }

    private static void refusals() {
        says("REFUSALS: nothing changes but how many there were");
        TyreBook x = Books.bought(1);
        for (int times = 1; times <= 3; times++) {
            x.far(0);
            x.wear(0, 2);
            x.depth(0, -1);
            x.depth(0, 1000001);
            due("-1", x.count(11), times);
            due("-2", x.count(12), times);
            due("-4", x.count(14), times);
            due("-6", x.count(16), times);
        }
        due("there is no -3", x.count(13), 0);
        due("there is no -5", x.count(15), 0);
        due("DAY", x.count(0), 0);
        TyreBook y = new TyreBook();
        due("another object's", y.count(11) + y.count(12) + y.count(14) + y.count(16), 0);
    }

    public static void main(String[] args) {
        days();
        wagonsAndPlaces();
        twins();
        leasts();
        apart();
        means();
        newTyres();
        readings();
        oneTyreOnAPlace();
        wearByReadings();
        wearOfManyReadings();
        depths();
        ends();
        endAgreesWithDepth();
        going();
        fitWithoutTyre();
        fitPairs();
        fitOrder();
        far();
        turnCannot();
        turnEmptyPlaces();
        turnFewest();
        turnLesserNumber();
        turnWholeWagon();
        treader();
        castForGood();
        logOfEachAct();
        asOf();
        fullLog();
        few();
        refusals();
        CHECK.end();
    }
}
