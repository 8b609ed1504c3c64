/** Books made for tests, each of at most some 320 calls, so that 512 leave room for the test's own. */
final class Books {
    static final int STEER = 0;
    static final int DRIVE = 1;
    static final int TWIN = 2;
    static final int LIFT = 3;
    static final int SPARE = 4;

    private Books() {
    }

    /** A wagon 0 with places of these kinds, each with a new tyre of maker 0 (tyre p on place p). */
    static TyreBook laidWith(int... kinds) {
        TyreBook x = new TyreBook();
        x.wagon();
        for (int p = 0; p < kinds.length; p++) {
            x.place(0, kinds[p]);
            x.buy(0);
            x.put(p, 0, p);
        }
        return x;
    }

    /** A wagon 0 with places of these kinds, all empty. */
    static TyreBook placesOf(int... kinds) {
        TyreBook x = new TyreBook();
        x.wagon();
        for (int kind : kinds) {
            x.place(0, kind);
        }
        return x;
    }

    static TyreBook wagons(int n) {
        TyreBook x = new TyreBook();
        for (int i = 0; i < n; i++) {
            x.wagon();
        }
        return x;
    }

    static TyreBook bought(int n) {
        TyreBook x = new TyreBook();
        for (int i = 0; i < n; i++) {
            x.buy(0);
        }
        return x;
    }

    static TyreBook onDay(int day) {
        TyreBook x = new TyreBook();
        x.buy(0);
        if (day > 0) {
            x.days(day);
        }
        return x;
    }

    /** Only for a tyre that has not gone yet: all its readings are at LENGTHS 0, so WEAR stays by MEAN. */
    static void setDepth(TyreBook x, int tyre, int depth) {
        x.read(tyre, depth);
    }

    /** From the STORE to the TREADER's and back into the STORE. */
    static void treadAnew(TyreBook x, int tyre) {
        x.send(tyre);
        x.days(10);
    }

    /** The tyre of this place is trodden anew and laid there again. */
    static void treadOn(TyreBook x, int place) {
        int tyre = x.take(0, place);
        treadAnew(x, tyre);
        x.put(tyre, 0, place);
    }

    /** A book whose LOG has this many: wagon 0 with tyres 0 and 1 on places 0 and 1, place 2 empty; tyre 2 in the store. */
    static TyreBook withLog(int kept) {
        TyreBook x = laidWith(DRIVE, DRIVE);
        x.place(0, DRIVE);
        x.buy(0);
        int log = 5;
        if ((kept - log) % 2 != 0) {
            x.swap(0, 1, 0, 2);
            x.take(0, 2);
            x.put(1, 0, 1);
            log += 3;
        }
        for (; log < kept; log += 2) {
            x.swap(0, 0, 0, 1);
        }
        return x;
    }

    /** Tyres 0 and 1 on places of these kinds, swapped until the LOG has this many (an even number). */
    static TyreBook swappedUntil(int kept, int kind, int other) {
        TyreBook x = laidWith(kind, other);
        for (int log = 4; log < kept; log += 2) {
            x.swap(0, 0, 0, 1);
        }
        return x;
    }

    /**
     * Something of everything, on DAY 35. Wagon 0: STEER, TWIN, TWIN, LIFT, SPARE with tyres 0 to 4, FIT. Wagon 1: DRIVE
     * with tyre 5, DRIVE and two SPARES empty. Wagon 2: no places. Tyres 6 in the store, 7 at the treader's, 8 cast,
     * 9 in the store with TREADS 2, 10 in the store with MENDS 9.
     */
    static TyreBook stocked() {
        TyreBook x = laidWith(STEER, TWIN, TWIN, LIFT, SPARE);
        x.wagon();
        x.wagon();
        x.place(1, DRIVE);
        x.place(1, DRIVE);
        x.place(1, SPARE);
        x.place(1, SPARE);
        for (int maker : new int[] {0, 1, 2, 3, 0, 1}) {
            x.buy(maker);
        }
        x.put(5, 1, 0);
        x.cast(8);
        treadAnew(x, 9);
        treadAnew(x, 9);
        for (int i = 0; i < 9; i++) {
            x.mend(10);
        }
        x.go(0, 1000, true);
        x.read(1, 178);
        x.days(10);
        x.send(7);
        x.days(5);
        return x;
    }
}
