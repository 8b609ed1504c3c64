/** Each promise by hand: ordinary calls, the edges that the document names, wrong calls and the order of refusals. */
public final class PromisesTest {
    private static final Check CHECK = new Check();
    private static final int LOW = Integer.MIN_VALUE;
    private static final int HIGH = Integer.MAX_VALUE;
    private static String now = "";

    private static void due(String call, long got, long want) {
        CHECK.due(now + ": " + call, got, want);
    }

    private static void promise1() {
        TyreBook x = new TyreBook();
        for (int what = 0; what <= 7; what++) {
            due("count(" + what + ")", x.count(what), 0);
        }
        for (int what = 11; what <= 16; what++) {
            due("count(" + what + ")", x.count(what), 0);
        }
        int[] leasts = {30, 20, 20, 16, 16};
        for (int kind = 0; kind < 5; kind++) {
            due("least(" + kind + ", 1)", x.least(kind, 1), leasts[kind]);
        }
        for (int m = 0; m < 4; m++) {
            due("maker(" + m + ", 1)", x.maker(m, 1), 100);
        }
        due("apart(1)", x.apart(1), 20);
        TyreBook y = new TyreBook();
        due("another object's apart", y.apart(5), 20);
        due("another object's least", y.least(0, 5), 30);
    }

    private static void promise2() {
        TyreBook x = new TyreBook();
        for (int i = 0; i < 5; i++) {
            due("wagon()", x.wagon(), i);
        }
        due("a sixth", x.wagon(), -6);
        due("wagons", x.count(1), 5);
        due("refusals", x.count(16), 1);
        due("no places", x.placeOf(0, 0, 0), -9);
    }

    private static void promise3() {
        TyreBook x = new TyreBook();
        due("no wagon", x.place(0, 0), -1);
        x.wagon();
        for (int p = 0; p < 7; p++) {
            due("place", x.place(0, p % 5), p);
            due("kind", x.placeOf(0, p, 0), p % 5);
        }
        due("an eighth", x.place(0, 0), -6);
        due("kind ahead of room", x.place(0, 5), -1);
        due("kind -1", x.place(0, -1), -1);
        due("wagon -1", x.place(-1, 0), -1);
        due("wagon low", x.place(LOW, 0), -1);
        due("wagon high", x.place(HIGH, 0), -1);
        due("refusals", x.count(11), 6);
        x.wagon();
        due("another wagon", x.place(1, 4), 0);
    }

    private static void promise4() {
        TyreBook x = Books.laidWith(1);
        due("least", x.least(1, 100), 20);
        due("least again", x.least(1, 0), 100);
        due("0 is kept", x.least(1, 50), 0);
        due("101", x.least(1, 101), -6);
        due("-1", x.least(1, -1), -4);
        due("no kind", x.least(5, -1), -1);
        due("kind -1", x.least(-1, 101), -1);
        due("unchanged by refusals", x.least(1, 50), 50);
        due("other kinds are as they were", x.least(2, 20), 20);
        due("far minds it", x.far(0), 130000);
    }

    private static void promise5() {
        TyreBook x = Books.laidWith(2, 2);
        Books.setDepth(x, 1, 155);
        due("25 apart", x.why(0), 4);
        due("apart", x.apart(25), 20);
        due("25 is not more", x.why(0), -9);
        due("100", x.apart(100), 25);
        due("101", x.apart(101), -6);
        due("-1", x.apart(-1), -4);
        due("0", x.apart(0), 100);
        due("0 was kept", x.apart(7), 0);
    }

    private static void promise6() {
        TyreBook x = new TyreBook();
        x.buy(2);
        x.buy(1);
        due("maker", x.maker(2, 1000), 100);
        due("wear minds it", x.wear(0, 1), 100);
        due("another maker's does not", x.wear(1, 1), 1000);
        due("0", x.maker(2, 0), 1000);
        due("wear 0", x.wear(0, 0), 0);
        due("by 1", x.wear(0, 1), 1);
        due("1001", x.maker(2, 1001), -6);
        due("-1", x.maker(2, -1), -4);
        due("no maker", x.maker(4, -1), -1);
        due("maker -1", x.maker(-1, 1001), -1);
        due("unchanged", x.maker(2, 3), 0);
    }

    private static void promise7() {
        TyreBook x = new TyreBook();
        x.days(3);
        due("maker 4", x.buy(4), -1);
        due("maker -1", x.buy(-1), -1);
        for (int t = 0; t < 40; t++) {
            due("buy", x.buy(t % 4), t);
        }
        due("a 41st", x.buy(0), -6);
        due("maker ahead of room", x.buy(9), -1);
        due("its maker", x.tyreOf(39, 0), 3);
        due("its day", x.tyreOf(39, 1), 3);
        due("its reading", x.reading(39, 0, 1), 180);
        due("in the store", x.count(3), 40);
        due("log", x.count(7), 40);
        due("with a full log", Books.withLog(600).buy(0), -6);
        due("with room for one", Books.withLog(599).buy(0), 3);
    }

    private static void promise8() {
        TyreBook x = Books.laidWith(0, 4);
        x.place(0, 3);
        x.buy(0);
        due("a place with a tyre", x.put(2, 0, 0), -2);
        due("a tyre on a place", x.put(0, 0, 2), -2);
        due("no tyre", x.put(3, 0, 0), -1);
        due("tyre -1", x.put(-1, 0, 0), -1);
        due("no wagon", x.put(2, 1, 0), -1);
        due("no place", x.put(2, 0, 3), -1);
        due("place -1", x.put(2, 0, -1), -1);
        due("put", x.put(2, 0, 2), 1);
        due("where", x.tyreOf(2, 6), 2);
        due("the place's tyre", x.placeOf(0, 2, 1), 2);
        due("on places", x.count(4), 3);
        due("with a full log", Books.withLog(600).put(2, 0, 2), -6);
        due("state ahead of room", Books.withLog(600).put(0, 0, 2), -2);
        due("with room for one", Books.withLog(599).put(2, 0, 2), 1);
    }

    private static void promise9() {
        TyreBook x = Books.laidWith(0, 4);
        due("take", x.take(0, 1), 1);
        due("empty", x.take(0, 1), -2);
        due("no place", x.take(0, 2), -1);
        due("no wagon", x.take(1, 0), -1);
        due("where", x.tyreOf(1, 6), -1);
        due("the place's tyre", x.placeOf(0, 1, 1), -9);
        due("in the store", x.count(3), 1);
        due("with a full log", Books.withLog(600).take(0, 0), -6);
        due("state ahead of room", Books.withLog(600).take(0, 2), -2);
        due("with room for one", Books.withLog(599).take(0, 1), 0);
    }

    private static void promise10() {
        TyreBook x = Books.laidWith(0, 1);
        x.wagon();
        x.place(1, 4);
        x.place(1, 4);
        due("the same place", x.swap(0, 1, 0, 1), -1);
        due("no other wagon", x.swap(0, 0, 2, 0), -1);
        due("no other place", x.swap(0, 0, 1, 2), -1);
        due("no place", x.swap(0, 2, 1, 0), -1);
        due("both empty", x.swap(1, 0, 1, 1), -2);
        due("two tyres", x.swap(0, 0, 0, 1), 1);
        due("first", x.placeOf(0, 0, 1), 1);
        due("second", x.placeOf(0, 1, 1), 0);
        due("log", x.count(7), 6);
        due("onto an empty one", x.swap(0, 0, 1, 1), 1);
        due("log of one", x.count(7), 7);
        due("where", x.tyreOf(1, 6), 11);
        due("left empty", x.placeOf(0, 0, 1), -9);
        due("from an empty one", x.swap(0, 0, 1, 1), 1);
        due("where", x.tyreOf(1, 6), 0);
        due("with a full log", Books.withLog(600).swap(0, 0, 0, 2), -6);
        due("two, with room for one", Books.withLog(599).swap(0, 0, 0, 1), -6);
        due("one, with room for one", Books.withLog(599).swap(0, 0, 0, 2), 1);
        due("two, with room for two", Books.withLog(598).swap(0, 0, 0, 1), 1);
    }

    private static void promise11() {
        TyreBook x = Books.laidWith(1);
        for (int i = 2; i <= 12; i++) {
            x.go(0, 100, true);
            due("read", x.read(0, 181 - i), i);
        }
        x.go(0, 100, true);
        due("a 13th", x.read(0, 100), 12);
        due("the first stays", x.reading(0, 0, 0), 0);
        due("its depth", x.reading(0, 0, 1), 180);
        due("the eldest but that is gone", x.reading(0, 1, 0), 200);
        for (int i = 1; i <= 10; i++) {
            due("depth of reading " + i, x.reading(0, i, 1), 179 - i);
        }
        due("the latest", x.reading(0, 11, 0), 1200);
        due("its depth", x.reading(0, 11, 1), 100);
        due("0", x.read(0, 0), 12);
        due("300", x.read(0, 300), 12);
        due("301", x.read(0, 301), -6);
        due("-1", x.read(0, -1), -4);
        due("no tyre", x.read(1, -1), -1);
        due("tyre -1", x.read(-1, 301), -1);
        x.buy(0);
        x.buy(0);
        x.send(1);
        x.cast(2);
        due("at the treader's", x.read(1, -1), -2);
        due("cast", x.read(2, 301), -2);
        x.buy(0);
        due("in the store", x.read(3, 170), 2);
    }

    private static void promise12() {
        TyreBook x = Books.laidWith(0, 1, 2, 3, 4);
        due("laden", x.go(0, 1000, true), 149000);
        int[] laden = {1000, 1000, 1000, 1000, 0};
        for (int t = 0; t < 5; t++) {
            due("lengths of " + t, x.tyreOf(t, 4), laden[t]);
        }
        due("not laden", x.go(0, 10000, false), 139000);
        due("lifted", x.tyreOf(3, 4), 1000);
        due("not lifted", x.tyreOf(2, 4), 11000);
        due("10001", x.go(0, 10001, true), -6);
        due("0", x.go(0, 0, true), -4);
        due("no wagon", x.go(1, 0, true), -1);
        x.take(0, 2);
        due("not fit, ahead of below", x.go(0, 0, true), -2);
        due("not fit, ahead of room", x.go(0, 10001, true), -2);
        x.put(2, 0, 2);
        due("1", x.go(0, 1, true), 138999);

        TyreBook y = Books.laidWith(1, 3);
        y.maker(0, 0);
        for (int i = 0; i < 99; i++) {
            y.go(0, 10000, false);
        }
        y.go(0, 9999, false);
        due("beyond 1000000", y.go(0, 2, false), -6);
        due("just 1000000", y.go(0, 1, true), 1000000);
        due("lengths", y.tyreOf(0, 4), 1000000);
        due("no more", y.go(0, 1, false), -6);
        due("lift", y.tyreOf(1, 4), 1);
        y.swap(0, 0, 0, 1);
        due("a lifted tyre is not asked", y.go(0, 1, false), 1000000);
        due("but laden it is", y.go(0, 1, true), -6);
        due("and nothing went", y.tyreOf(1, 4), 2);
    }

    private static void promise13() {
        TyreBook x = Books.laidWith(4, 0, 2, 2, 2, 1);
        due("fit", x.why(0), -9);
        due("no wagon", x.why(1), -1);
        x.take(0, 0);
        due("a spare may be empty", x.why(0), -9);
        x.take(0, 5);
        due("an empty drive", x.why(0), 51);
        Books.setDepth(x, 4, 16);
        due("depth below, ahead by place", x.why(0), 43);
        Books.setDepth(x, 2, 159);
        due("21 apart", x.why(0), 24);
        Books.setDepth(x, 2, 160);
        due("20 apart", x.why(0), 43);
        x.take(0, 3);
        Books.setDepth(x, 2, 20);
        due("a pair without tyre", x.why(0), 31);
        Books.setDepth(x, 2, 19);
        due("depth below 20", x.why(0), 23);
        x.take(0, 1);
        x.send(1);
        x.days(10);
        x.put(1, 0, 1);
        due("a steer with treads", x.why(0), 12);
        Books.setDepth(x, 1, 10);
        due("treads ahead of depth", x.why(0), 12);
        Books.setDepth(x, 0, 15);
        x.put(0, 0, 0);
        due("a spare's depth", x.why(0), 3);

        TyreBook y = Books.laidWith(2, 2);
        Books.setDepth(y, 1, 19);
        due("the first of the pair is told as apart", y.why(0), 4);
    }

    private static void promise14() {
        TyreBook x = Books.laidWith(0, 3, 4);
        due("far", x.far(0), 150000);
        Books.setDepth(x, 1, 100);
        due("a lift counts", x.far(0), 84000);
        Books.setDepth(x, 2, 1);
        due("a spare does not", x.far(0), 84000);
        Books.setDepth(x, 1, 15);
        due("below already", x.far(0), 0);
        due("no wagon", x.far(1), -1);
        x.wagon();
        due("no places", x.far(1), 1000000);
        x.place(1, 0);
        due("no tyres", x.far(1), 1000000);
    }

    private static void promise15() {
        TyreBook x = Books.laidWith(0, 3);
        Books.setDepth(x, 0, 100);
        Books.setDepth(x, 1, 120);
        due("far", x.far(0), 70000);
        due("best", x.best(0), 84000);
        due("nothing changed", x.placeOf(0, 0, 1), 0);
        due("log", x.count(7), 4);
        due("no wagon", x.best(1), -1);
        x.wagon();
        x.place(1, 0);
        due("no tyres", x.best(1), -2);
        x.buy(0);
        x.send(2);
        x.days(10);
        x.put(2, 1, 0);
        due("a steer with treads", x.best(1), -2);
        x.place(1, 4);
        due("a steer that had one is not emptied", x.best(1), -2);
        x.buy(0);
        x.put(3, 1, 1);
        due("with a new one beside", x.best(1), 150000);
        due("state", x.count(12), 3);
    }

    private static void promise16() {
        TyreBook x = Books.laidWith(0, 3);
        Books.setDepth(x, 0, 100);
        Books.setDepth(x, 1, 120);
        due("turn", x.turn(0), 2);
        due("steer", x.placeOf(0, 0, 1), 1);
        due("lift", x.placeOf(0, 1, 1), 0);
        due("where", x.tyreOf(1, 6), 0);
        due("far", x.far(0), 84000);
        due("log", x.count(7), 6);
        due("again", x.turn(0), 0);
        due("no wagon", x.turn(-1), -1);
        x.wagon();
        due("no tyres", x.turn(1), -2);

        turnToSpare();
        turnByNumber();
        turnTreads();
        turnWithFullLog();
    }

    /** A tyre that is worn out goes onto the spare's place; the fewest change, and the lesser number goes first. */
    private static void turnToSpare() {
        TyreBook x = Books.laidWith(1, 1, 4, 4);
        Books.setDepth(x, 0, 50);
        due("turn to spare", x.turn(0), 2);
        due("place 0 has the lesser of two alike", x.placeOf(0, 0, 1), 2);
        due("the first spare has the worn one", x.placeOf(0, 2, 1), 0);
        due("the other stays", x.placeOf(0, 3, 1), 3);

        TyreBook y = Books.laidWith(1, 4);
        y.place(0, 4);
        Books.setDepth(y, 0, 50);
        due("turn with an empty spare", y.turn(0), 2);
        due("lesser number ahead of an empty place", y.placeOf(0, 1, 1), 0);
        due("empty stays behind", y.placeOf(0, 2, 1), -9);
    }

    /** Two ways with as few changes: the one whose first place that differs has the lesser number. */
    private static void turnByNumber() {
        TyreBook x = new TyreBook();
        x.wagon();
        for (int p = 0; p < 3; p++) {
            x.place(0, p == 0 ? 1 : 4);
            x.buy(0);
        }
        x.put(2, 0, 1);
        x.put(1, 0, 2);
        x.put(0, 0, 0);
        Books.setDepth(x, 0, 30);
        due("turn by number", x.turn(0), 2);
        due("tyre 1, though it stood behind", x.placeOf(0, 0, 1), 1);
        due("tyre 2 stays", x.placeOf(0, 1, 1), 2);
    }

    private static void turnTreads() {
        TyreBook x = new TyreBook();
        x.wagon();
        x.place(0, 0);
        x.place(0, 1);
        x.place(0, 1);
        x.buy(0);
        x.buy(0);
        x.send(0);
        x.days(10);
        x.put(0, 0, 0);
        due("no way", x.turn(0), -2);
        Books.setDepth(x, 1, 40);
        x.put(1, 0, 1);
        due("treads leave the steer, though it is worse", x.turn(0), 2);
        due("far then", x.far(0), 10000);
        due("the steer's", x.placeOf(0, 0, 1), 1);
        due("the empty drive stays empty", x.placeOf(0, 2, 1), -9);
        x.take(0, 0);
        due("an empty steer may stay so", x.turn(0), 0);
    }

    private static void turnWithFullLog() {
        TyreBook x = Books.swappedUntil(600, 0, 3);
        due("none changes", x.turn(0), 0);
        Books.setDepth(x, x.placeOf(0, 0, 1), 40);
        due("two would, no room", x.turn(0), -6);
        due("best still answers", x.best(0), 24000);
        due("nothing changed", x.far(0), 10000);
        due("log", x.count(7), 600);

        TyreBook y = Books.swappedUntil(598, 0, 3);
        Books.setDepth(y, y.placeOf(0, 0, 1), 40);
        due("room for two", y.turn(0), 2);
        due("log", y.count(7), 600);

        TyreBook z = Books.swappedUntil(596, 0, 3);
        int steer = z.take(0, 0);
        z.put(steer, 0, 0);
        z.buy(0);
        Books.setDepth(z, steer, 40);
        due("two would, room for one", z.turn(0), -6);
        due("log", z.count(7), 599);
    }

    private static void promise17() {
        TyreBook x = Books.laidWith(1, 1);
        due("by mean", x.wear(0, 0), 1);
        due("lower", x.wear(0, 1), 1000);
        due("another what", x.wear(0, 2), -2);
        due("what -1", x.wear(0, -1), -2);
        due("no tyre, ahead of what", x.wear(2, 2), -1);
        x.read(0, 175);
        due("like lengths: still mean", x.wear(0, 1), 1000);
        x.go(0, 1000, true);
        x.read(0, 170);
        // (0,180) (0,175) (1000,170): n 3, sum x 1000, y 525, xy 170000, xx 1000000: 15000 by 2000000.
        due("least squares", x.wear(0, 0), 3);
        due("lower", x.wear(0, 1), 400);
        x.read(1, 200);
        due("growing tread: 0", x.wear(1, 0), 0);
        due("by 1", x.wear(1, 1), 1);
        x.go(0, 500, true);
        x.read(1, 100);
        // (0,180) (1000,200) (1500,100): n 3, x 2500, y 480, xy 350000, xx 3250000: 150000 by 3500000.
        due("three readings", x.wear(1, 0), 3);
        due("lower", x.wear(1, 1), 70);
        x.maker(0, 7);
        due("mean no longer counts", x.wear(1, 0), 3);
        due("7 by 100000 has no common factor", wearByMean(7), 700000);
        due("1 by 100000", wearByMean(1), 100000);
        due("1000 by 100000 is 1 by 100", wearByMean(1000), 100);
        due("375 by 100000 is 3 by 800", wearByMean(375), 2400);
        wearInOneLength();
        wearOfThirteen();
        wearOfNewTread();
    }

    /** Upper times lower number. */
    private static long wearByMean(int mean) {
        TyreBook x = Books.laidWith(1);
        x.maker(0, mean);
        return x.wear(0, 0) * x.wear(0, 1);
    }

    private static void wearInOneLength() {
        TyreBook x = Books.laidWith(1);
        x.go(0, 1, true);
        x.read(0, 179);
        due("1 in 1", x.wear(0, 0), 1);
        due("lower", x.wear(0, 1), 1);
        due("1 is left", x.depth(0, 178), 1);
        due("nothing is left", x.depth(0, 179), 0);
        due("end", x.end(0, 1), 178);
    }

    /** The dropped reading counts no more: (0,180), then (1000,180 - i) for what is left of 13. */
    private static void wearOfThirteen() {
        TyreBook x = Books.laidWith(1);
        x.go(0, 1000, true);
        for (int i = 1; i <= 12; i++) {
            x.read(0, 180 - 10 * i);
        }
        // First and eleven at 1000, 160 down to 60: their mean is 110, so the line falls 70 in 1000.
        due("thirteen readings", x.wear(0, 0), 7);
        due("lower", x.wear(0, 1), 100);
    }

    private static void wearOfNewTread() {
        TyreBook x = Books.laidWith(1);
        x.go(0, 1000, true);
        x.read(0, 170);
        x.read(0, 160);
        x.read(0, 90);
        x.take(0, 0);
        x.send(0);
        x.days(10);
        x.put(0, 0, 0);
        x.go(0, 1000, true);
        x.read(0, 175);
        due("old readings do not count", x.wear(0, 0), 1);
        due("lower", x.wear(0, 1), 200);
    }

    private static void promise18() {
        TyreBook x = Books.laidWith(1);
        due("now", x.depth(0, 0), 180);
        due("cut down", x.depth(0, 1), 179);
        due("1000", x.depth(0, 1000), 179);
        due("1001", x.depth(0, 1001), 178);
        due("0", x.depth(0, 180000), 0);
        due("0 at least", x.depth(0, 1000000), 0);
        due("1000001", x.depth(0, 1000001), -6);
        due("-1", x.depth(0, -1), -4);
        due("no tyre", x.depth(1, -1), -1);
        x.go(0, 1000, true);
        due("after going", x.depth(0, 0), 179);
        x.read(0, 150);
        // 30 by 1000 from now on.
        due("from the latest reading", x.depth(0, 100), 147);
        due("cut down", x.depth(0, 101), 146);
    }

    private static void promise19() {
        TyreBook x = Books.laidWith(1);
        due("to 20", x.end(0, 20), 160000);
        due("to 180", x.end(0, 180), 0);
        due("to 181", x.end(0, 181), 0);
        due("to 300", x.end(0, 300), 0);
        due("301", x.end(0, 301), -6);
        due("-1", x.end(0, -1), -4);
        due("no tyre", x.end(1, -1), -1);
        due("to 1", x.end(0, 1), 179000);
        due("depth is never below 0", x.end(0, 0), 1000000);
        x.maker(0, 7);
        due("7 by 100000 to 170: 142857.1", x.end(0, 170), 142857);
        due("depth there", x.depth(0, 142857), 170);
        due("depth behind", x.depth(0, 142858), 169);
        due("1000000 at most", x.end(0, 1), 1000000);
        x.maker(0, 0);
        due("without wear", x.end(0, 180), 1000000);
        due("without wear, less already", x.end(0, 181), 0);
        x.maker(0, 100);
        x.go(0, 1000, true);
        due("after going", x.end(0, 20), 159000);
        due("less already", x.end(0, 180), 0);
        due("0 for its depth", x.end(0, 179), 0);
    }

    private static void promise20() {
        TyreBook x = Books.laidWith(1);
        x.buy(0);
        due("on a place", x.send(0), -2);
        due("no tyre", x.send(2), -1);
        x.go(0, 500, true);
        x.read(0, 100);
        x.take(0, 0);
        due("send", x.send(0), 10);
        due("there already", x.send(0), -2);
        due("old tread until then", x.tyreOf(0, 4), 500);
        x.days(10);
        due("treads", x.tyreOf(0, 2), 1);
        due("lengths", x.tyreOf(0, 4), 0);
        due("readings", x.tyreOf(0, 5), 1);
        due("reading", x.reading(0, 0, 1), 180);
        due("wear is by mean again", x.wear(0, 1), 1000);
        due("a second time", x.send(0), 20);
        x.days(10);
        due("not a third", x.send(0), -2);
        x.mend(1);
        x.mend(1);
        x.mend(1);
        due("mends 3", x.send(1), -2);
        x.buy(0);
        x.mend(2);
        x.mend(2);
        x.days(1970);
        due("last day to send", x.send(2), 2000);
        x.buy(0);
        x.days(1);
        due("too late", x.send(3), -6);
        x.cast(3);
        due("cast, ahead of room", x.send(3), -2);
        due("with a full log", Books.withLog(600).send(2), -6);
        due("with room for one", Books.withLog(599).send(2), 10);
    }

    private static void promise21() {
        TyreBook x = Books.laidWith(1);
        x.buy(0);
        due("on a place", x.mend(0), -2);
        due("no tyre", x.mend(2), -1);
        for (int i = 1; i <= 9; i++) {
            due("mend", x.mend(1), i);
        }
        due("a tenth", x.mend(1), -6);
        due("mends", x.tyreOf(1, 3), 9);
        x.cast(1);
        due("cast, ahead of room", x.mend(1), -2);
        x.buy(0);
        x.mend(2);
        x.send(2);
        due("at the treader's", x.mend(2), -2);
        x.days(10);
        due("mends stay with the case", x.mend(2), 2);
        due("with a full log", Books.withLog(600).mend(2), 1);
    }

    private static void promise22() {
        TyreBook x = Books.laidWith(1);
        x.buy(0);
        due("on a place", x.cast(0), -2);
        due("no tyre", x.cast(2), -1);
        due("cast", x.cast(1), 1);
        due("again", x.cast(1), -2);
        due("where", x.tyreOf(1, 6), -3);
        due("count", x.count(6), 1);
        x.buy(0);
        x.send(2);
        due("at the treader's", x.cast(2), -2);
        due("with a full log", Books.withLog(600).cast(2), -6);
        due("with room for one", Books.withLog(599).cast(2), 1);
    }

    private static void promise23() {
        TyreBook x = new TyreBook();
        due("0", x.days(0), -4);
        due("-1", x.days(LOW), -4);
        due("high", x.days(HIGH), -6);
        due("days", x.days(1), 1);
        due("all but one", x.days(1998), 1999);
        due("two more", x.days(2), -6);
        due("one more", x.days(1), 2000);
        due("none left", x.days(1), -6);
        due("the day", x.count(0), 2000);

        TyreBook z = Books.withLog(597);
        int first = z.take(0, 0);
        z.send(2);
        z.days(3);
        z.send(first);
        due("two are there", z.count(5), 2);
        due("full", z.count(7), 600);
        due("days over both", z.days(20), 23);
        due("both are back", z.count(5), 0);
        due("treads", z.tyreOf(2, 2), 1);
        due("not kept", z.count(7), 600);
        due("so not told", z.asOf(2, 23), -2);
        due("but it is there", z.tyreOf(2, 6), -1);
        keptByDay();
    }

    /** With room for one, the one that is back first is kept, whatever its number. */
    private static void keptByDay() {
        TyreBook x = Books.withLog(596);
        int taken = x.take(0, 0);
        x.send(2);
        x.days(3);
        x.send(taken);
        due("room for one", x.count(7), 599);
        x.days(20);
        due("kept", x.count(7), 600);
        due("back on day 10", x.asOf(2, 10), -1);
        due("still there on day 9", x.asOf(2, 9), -2);
        due("the later one is not told", x.asOf(taken, 23), -2);

        TyreBook y = Books.withLog(596);
        int lesser = y.take(0, 0);
        y.send(2);
        y.send(lesser);
        y.days(10);
        due("on the same day: the lesser number is kept", y.asOf(lesser, 10), -1);
        due("the greater is not", y.asOf(2, 10), -2);
    }

    private static void promise24() {
        TyreBook x = Books.laidWith(0, 1, 4);
        due("they last", x.few(0, 0, 150000), 0);
        due("one place more", x.few(0, 0, 150001), 1);
        due("one new lasts 150000", x.few(0, 0, 300000), 2);
        due("then another", x.few(0, 0, 300001), 3);
        due("1000000", x.few(0, 0, 1000000), 12);
        due("1000001", x.few(0, 0, 1000001), -6);
        due("-1", x.few(0, 0, -1), -4);
        due("no wagon", x.few(1, 0, -1), -1);
        due("no maker", x.few(0, 4, -1), -1);
        due("0", x.few(0, 0, 0), 0);
        x.take(0, 1);
        x.take(0, 2);
        due("an empty place takes one at least, a spare none", x.few(0, 0, 0), 1);
        due("the empty one's lasts 160000", x.few(0, 0, 160000), 2);
        due("and one more", x.few(0, 0, 160001), 3);
        x.maker(3, 1000);
        due("by the maker's mean", x.few(0, 3, 160000), 11);
        Books.setDepth(x, 0, 1);
        due("0, though it is below already", x.few(0, 0, 0), 1);
        due("1, as it is below already", x.few(0, 0, 1), 2);
        x.place(0, 3);
        due("a lift counts", x.few(0, 0, 1), 3);
        due("nothing is bought", x.count(2), 3);
    }

    private static void promise25() {
        TyreBook x = new TyreBook();
        x.days(2);
        x.wagon();
        x.wagon();
        x.place(1, 0);
        x.place(1, 1);
        x.buy(0);
        x.days(1);
        x.put(0, 1, 0);
        x.swap(1, 0, 1, 1);
        x.days(1);
        x.take(1, 1);
        x.send(0);
        x.days(12);
        x.cast(0);
        due("day 0", x.asOf(0, 0), -9);
        due("ahead of buying", x.asOf(0, 1), -9);
        due("the store", x.asOf(0, 2), -1);
        due("behind all acts of the day", x.asOf(0, 3), 11);
        due("sent", x.asOf(0, 4), -2);
        due("still there", x.asOf(0, 13), -2);
        due("back", x.asOf(0, 14), -1);
        due("still back", x.asOf(0, 15), -1);
        due("cast", x.asOf(0, 16), -3);
        due("no refusal so far", x.count(11) + x.count(12), 0);
        due("behind now", x.asOf(0, 17), -16);
        due("below 0", x.asOf(0, -1), -14);
        due("no tyre, ahead of below", x.asOf(1, -1), -11);
        due("tyre -1", x.asOf(-1, 17), -11);
        due("counted as -1", x.count(11), 2);
        due("counted as -4", x.count(14), 1);
        due("counted as -6", x.count(16), 1);
    }

    private static void promise26() {
        TyreBook x = new TyreBook();
        x.wagon();
        x.place(0, 1);
        x.days(5);
        x.buy(3);
        x.mend(0);
        x.send(0);
        due("back", x.tyreOf(0, 8), 15);
        due("where", x.tyreOf(0, 6), -2);
        x.days(10);
        due("not back", x.tyreOf(0, 8), -9);
        x.put(0, 0, 0);
        x.go(0, 1500, true);
        x.read(0, 177);
        x.go(0, 500, true);
        int[] want = {3, 5, 1, 1, 2000, 2, 0, 176, -9};
        for (int what = 0; what < want.length; what++) {
            due("tyreOf(0, " + what + ")", x.tyreOf(0, what), want[what]);
        }
        due("what 9", x.tyreOf(0, 9), -20);
        due("what -1", x.tyreOf(0, -1), -20);
        due("no tyre", x.tyreOf(1, 0), -20);
        due("tyre -1", x.tyreOf(-1, 0), -20);
        due("no refusals", x.count(11) + x.count(12), 0);
    }

    private static void promise27() {
        TyreBook x = Books.laidWith(1);
        x.go(0, 70, true);
        x.read(0, 140);
        due("first", x.reading(0, 0, 0), 0);
        due("its depth", x.reading(0, 0, 1), 180);
        due("second", x.reading(0, 1, 0), 70);
        due("its depth", x.reading(0, 1, 1), 140);
        due("no third", x.reading(0, 2, 0), -9);
        due("-1", x.reading(0, -1, 0), -9);
        due("what 2", x.reading(0, 0, 2), -9);
        due("what -1", x.reading(0, 0, -1), -9);
        due("no tyre", x.reading(1, 0, 0), -9);
        due("tyre -1", x.reading(-1, 0, 0), -9);
        due("high", x.reading(0, HIGH, 0), -9);
        due("no refusals", x.count(11) + x.count(12), 0);
    }

    private static void promise28() {
        TyreBook x = Books.laidWith(2, 0, 2, 2, 4, 2, 2);
        int[] pairs = {2, -9, 0, 5, -9, 3, -9};
        for (int p = 0; p < 7; p++) {
            due("pair of " + p, x.placeOf(0, p, 2), pairs[p]);
            due("tyre of " + p, x.placeOf(0, p, 1), p);
        }
        due("kind", x.placeOf(0, 4, 0), 4);
        x.take(0, 4);
        due("empty", x.placeOf(0, 4, 1), -9);
        due("what 3", x.placeOf(0, 0, 3), -9);
        due("what -1", x.placeOf(0, 0, -1), -9);
        due("place 7", x.placeOf(0, 7, 0), -9);
        due("place -1", x.placeOf(0, -1, 0), -9);
        due("wagon 1", x.placeOf(1, 0, 0), -9);
        due("wagon -1", x.placeOf(-1, 0, 0), -9);
        due("no refusals", x.count(11) + x.count(12), 0);
    }

    private static void promise29() {
        TyreBook x = Books.laidWith(1, 1);
        for (int i = 0; i < 4; i++) {
            x.buy(0);
        }
        x.send(2);
        x.cast(3);
        x.days(7);
        int[] want = {7, 1, 6, 2, 2, 1, 1, 10};
        for (int what = 0; what < want.length; what++) {
            due("count(" + what + ")", x.count(what), want[what]);
        }
        x.far(9);
        x.take(0, 0);
        x.take(0, 0);
        x.take(0, 0);
        x.days(0);
        x.days(0);
        x.days(0);
        x.days(5000);
        x.days(5000);
        x.days(5000);
        x.days(5000);
        int[] refusals = {1, 2, 0, 3, 0, 4};
        for (int i = 0; i < refusals.length; i++) {
            due("count(" + (11 + i) + ")", x.count(11 + i), refusals[i]);
        }
        for (int what : new int[] {-1, 8, 9, 10, 17, LOW, HIGH}) {
            due("count(" + what + ")", x.count(what), -9);
        }
        due("-9 is no refusal", x.count(11), 1);
    }

    public static void main(String[] args) {
        Runnable[] promises = {PromisesTest::promise1, PromisesTest::promise2, PromisesTest::promise3,
            PromisesTest::promise4, PromisesTest::promise5, PromisesTest::promise6, PromisesTest::promise7,
            PromisesTest::promise8, PromisesTest::promise9, PromisesTest::promise10, PromisesTest::promise11,
            PromisesTest::promise12, PromisesTest::promise13, PromisesTest::promise14, PromisesTest::promise15,
            PromisesTest::promise16, PromisesTest::promise17, PromisesTest::promise18, PromisesTest::promise19,
            PromisesTest::promise20, PromisesTest::promise21, PromisesTest::promise22, PromisesTest::promise23,
            PromisesTest::promise24, PromisesTest::promise25, PromisesTest::promise26, PromisesTest::promise27,
            PromisesTest::promise28, PromisesTest::promise29};
        for (int i = 0; i < promises.length; i++) {
            now = "promise " + (i + 1);
            promises[i].run();
        }
        CHECK.end();
    }
}
