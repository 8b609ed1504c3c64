import java.util.ArrayList;
import java.util.List;
import java.util.function.Supplier;

/**
 * Promises 2 to 29, call by call: each refusal on both sides of its bound, the order in which the document tells the
 * refusals, and that a refused call changes nothing but how many there were.
 */
public final class CallBoundsTest {
    private static final Check CHECK = new Check();
    private static final int LOW = Integer.MIN_VALUE;
    private static final int HIGH = Integer.MAX_VALUE;
    private static final int NOBODY = -1;
    private static final int STATE = -2;
    private static final int BELOW = -4;
    private static final int ROOM = -6;
    /** A book made with some 320 calls and asked this often stays within its 512. */
    private static final int PROBES_A_BOOK = 150;
    private static final Supplier<TyreBook> STOCKED = Books::stocked;
    private static final Supplier<TyreBook> FULL = () -> Books.withLog(600);
    private static final Supplier<TyreBook> ROOM_FOR_ONE = () -> Books.withLog(599);
    private static final Supplier<TyreBook> ROOM_FOR_TWO = () -> Books.withLog(598);
    private static String promise = "";

    private record Probe(String name, int... args) {
        long of(TyreBook x) {
            return Face.ask(x, name, args);
        }
    }

    private static void due(String what, long got, long want) {
        CHECK.due(promise + ": " + what, got, want);
    }

    /** The call is done: its answer is due, and no refusal is counted. */
    private static void takes(Supplier<TyreBook> made, long answer, String name, int... args) {
        TyreBook x = made.get();
        long before = refusals(x);
        due(Face.told(name, args), Face.ask(x, name, args), answer);
        due("refusals behind " + Face.told(name, args), refusals(x), before);
    }

    /** The call answers and changes nothing at all. */
    private static void tells(Supplier<TyreBook> made, long answer, String name, int... args) {
        changesOnly(made, answer, 0, new Probe(name, args));
    }

    /** The call is refused: nothing changes but that there was one refusal more of this number. */
    private static void refuses(Supplier<TyreBook> made, int answer, String name, int... args) {
        changesOnly(made, answer, 10 - answer, new Probe(name, args));
    }

    private static long refusals(TyreBook x) {
        long sum = 0;
        for (int what = 11; what <= 16; what++) {
            sum += x.count(what);
        }
        return sum;
    }

    /** Asks two books alike, one behind the call and one without it: only count(counted) may differ, and by 1. */
    private static void changesOnly(Supplier<TyreBook> made, long answer, int counted, Probe call) {
        String told = Face.told(call.name, call.args);
        List<Probe> probes = probesOf(made.get());
        for (int from = 0; from < probes.size(); from += PROBES_A_BOOK) {
            TyreBook without = made.get();
            TyreBook behind = made.get();
            due(told, call.of(behind), answer);
            for (Probe p : probes.subList(from, Math.min(probes.size(), from + PROBES_A_BOOK))) {
                boolean more = counted != 0 && p.name.equals("count") && p.args[0] == counted;
                due(Face.told(p.name, p.args) + " behind " + told, p.of(behind), p.of(without) + (more ? 1 : 0));
            }
        }
    }

    /** All that can be asked of a book; those that change it (LEAST and others have no other way to be seen) come last. */
    private static List<Probe> probesOf(TyreBook x) {
        List<Probe> probes = new ArrayList<>();
        for (int what = 0; what <= 16; what++) {
            probes.add(new Probe("count", what));
        }
        for (int t = 0; t < x.count(2); t++) {
            probeTyre(probes, x, t);
        }
        for (int w = 0; w < x.count(1); w++) {
            for (int p = 0; x.placeOf(w, p, 0) != -9; p++) {
                for (int what = 0; what < 3; what++) {
                    probes.add(new Probe("placeOf", w, p, what));
                }
            }
            for (String name : new String[] {"why", "far", "best", "place", "turn"}) {
                probes.add(new Probe(name, w, 0));
            }
        }
        for (int i = 0; i < 5; i++) {
            probes.add(new Probe("least", i, 0));
            probes.add(new Probe("maker", i, 0));
        }
        probes.add(new Probe("apart", 0));
        probes.add(new Probe("buy", 0));
        probes.add(new Probe("wagon"));
        return probes;
    }

    private static void probeTyre(List<Probe> probes, TyreBook x, int t) {
        for (int what = 0; what <= 8; what++) {
            probes.add(new Probe("tyreOf", t, what));
        }
        for (int i = 0; i < x.tyreOf(t, 5); i++) {
            probes.add(new Probe("reading", t, i, 0));
            probes.add(new Probe("reading", t, i, 1));
        }
        for (int day = 0; day < x.count(0); day += 10) {
            probes.add(new Probe("asOf", t, day));
        }
        probes.add(new Probe("asOf", t, x.count(0)));
        probes.add(new Probe("wear", t, 0));
        probes.add(new Probe("wear", t, 1));
        probes.add(new Probe("end", t, 1));
    }

    private static int[] with(int[] args, int which, int number) {
        int[] changed = args.clone();
        changed[which] = number;
        return changed;
    }

    /** -1 for a number that is none of 0 to count - 1, on both sides and far away. */
    private static void noSuch(Supplier<TyreBook> made, String name, int which, int count, int... args) {
        for (int number : new int[] {-1, count, LOW, HIGH}) {
            refuses(made, NOBODY, name, with(args, which, number));
        }
    }

    /** -4 below the least and -6 above the greatest, right beside them and far away. */
    private static void outside(Supplier<TyreBook> made, String name, int which, int least, int greatest, int... args) {
        refuses(made, BELOW, name, with(args, which, least - 1));
        refuses(made, BELOW, name, with(args, which, LOW));
        refuses(made, ROOM, name, with(args, which, greatest + 1));
        refuses(made, ROOM, name, with(args, which, HIGH));
    }

    /** -1 is told ahead of -4 and -6, which the last number alone would get. */
    private static void nobodyFirst(Supplier<TyreBook> made, String name, int below, int above, int... args) {
        refuses(made, NOBODY, name, with(args, args.length - 1, below));
        refuses(made, NOBODY, name, with(args, args.length - 1, above));
    }

    private static void promise2() {
        for (int n = 0; n < 5; n++) {
            int number = n;
            takes(() -> Books.wagons(number), number, "wagon");
        }
        refuses(() -> Books.wagons(5), ROOM, "wagon");
    }

    private static void promise3() {
        noSuch(STOCKED, "place", 0, 3, 0, 0);
        noSuch(STOCKED, "place", 1, 5, 0, 0);
        noSuch(TyreBook::new, "place", 0, 0, 0, 0);
        takes(STOCKED, 5, "place", 0, 0);
        takes(STOCKED, 0, "place", 2, 4);
        Supplier<TyreBook> seven = () -> Books.placesOf(0, 1, 2, 3, 4, 0, 1);
        takes(() -> Books.placesOf(0, 1, 2, 3, 4, 0), 6, "place", 0, 4);
        refuses(seven, ROOM, "place", 0, 0);
        refuses(seven, ROOM, "place", 0, 4);
        refuses(seven, NOBODY, "place", 0, 5);
        refuses(seven, NOBODY, "place", 0, -1);
    }

    private static void promise4() {
        int[] first = {30, 20, 20, 16, 16};
        noSuch(STOCKED, "least", 0, 5, 0, 50);
        for (int kind = 0; kind < 5; kind++) {
            outside(STOCKED, "least", 1, 0, 100, kind, 0);
            takes(STOCKED, first[kind], "least", kind, 0);
            takes(STOCKED, first[kind], "least", kind, 100);
        }
        nobodyFirst(STOCKED, "least", -1, 101, 5, 0);
        nobodyFirst(STOCKED, "least", -1, 101, -1, 0);
    }

    private static void promise5() {
        outside(STOCKED, "apart", 0, 0, 100, 0);
        takes(STOCKED, 20, "apart", 0);
        takes(STOCKED, 20, "apart", 100);
    }

    private static void promise6() {
        noSuch(STOCKED, "maker", 0, 4, 0, 50);
        for (int m = 0; m < 4; m++) {
            outside(STOCKED, "maker", 1, 0, 1000, m, 0);
            takes(STOCKED, 100, "maker", m, 0);
            takes(STOCKED, 100, "maker", m, 1000);
        }
        nobodyFirst(STOCKED, "maker", -1, 1001, 4, 0);
        nobodyFirst(STOCKED, "maker", -1, 1001, -1, 0);
    }

    private static void promise7() {
        noSuch(STOCKED, "buy", 0, 4, 0);
        takes(STOCKED, 11, "buy", 0);
        takes(STOCKED, 11, "buy", 3);
        takes(() -> Books.bought(39), 39, "buy", 0);
        refuses(() -> Books.bought(40), ROOM, "buy", 0);
        refuses(() -> Books.bought(40), NOBODY, "buy", 4);
        takes(ROOM_FOR_ONE, 3, "buy", 0);
        refuses(FULL, ROOM, "buy", 0);
        refuses(FULL, NOBODY, "buy", -1);
        Supplier<TyreBook> allCast = () -> {
            TyreBook x = Books.bought(40);
            for (int t = 0; t < 40; t++) {
                x.cast(t);
            }
            return x;
        };
        refuses(allCast, ROOM, "buy", 0);
    }

    private static void promise8() {
        noSuch(STOCKED, "put", 0, 11, 0, 1, 1);
        noSuch(STOCKED, "put", 1, 3, 6, 0, 1);
        noSuch(STOCKED, "put", 2, 4, 6, 1, 0);
        refuses(STOCKED, NOBODY, "put", 6, 2, 0);
        takes(STOCKED, 1, "put", 6, 1, 1);
        takes(STOCKED, 1, "put", 10, 1, 3);
        takes(STOCKED, 1, "put", 9, 1, 2);
        for (int notInStore : new int[] {0, 5, 7, 8}) {
            refuses(STOCKED, STATE, "put", notInStore, 1, 1);
        }
        refuses(STOCKED, STATE, "put", 6, 1, 0);
        refuses(STOCKED, STATE, "put", 5, 1, 0);
        refuses(STOCKED, NOBODY, "put", 11, 1, 0);
        refuses(STOCKED, NOBODY, "put", 8, 3, 0);
        refuses(STOCKED, NOBODY, "put", 8, 1, 4);
        takes(ROOM_FOR_ONE, 1, "put", 2, 0, 2);
        refuses(FULL, ROOM, "put", 2, 0, 2);
        refuses(FULL, STATE, "put", 2, 0, 0);
        refuses(FULL, STATE, "put", 0, 0, 2);
        refuses(FULL, NOBODY, "put", 3, 0, 2);
        refuses(FULL, NOBODY, "put", 2, 1, 2);
        refuses(FULL, NOBODY, "put", 2, 0, 3);
    }

    private static void promise9() {
        noSuch(STOCKED, "take", 0, 3, 0, 0);
        noSuch(STOCKED, "take", 1, 5, 0, 0);
        refuses(STOCKED, NOBODY, "take", 2, 0);
        takes(STOCKED, 0, "take", 0, 0);
        takes(STOCKED, 4, "take", 0, 4);
        takes(STOCKED, 5, "take", 1, 0);
        refuses(STOCKED, STATE, "take", 1, 1);
        refuses(STOCKED, STATE, "take", 1, 3);
        takes(ROOM_FOR_ONE, 0, "take", 0, 1);
        refuses(FULL, ROOM, "take", 0, 1);
        refuses(FULL, STATE, "take", 0, 2);
        refuses(FULL, NOBODY, "take", 0, 3);
        refuses(FULL, NOBODY, "take", 1, 0);
    }

    private static void promise10() {
        noSuch(STOCKED, "swap", 0, 3, 0, 0, 1, 0);
        noSuch(STOCKED, "swap", 1, 5, 0, 0, 1, 0);
        noSuch(STOCKED, "swap", 2, 3, 0, 0, 1, 0);
        noSuch(STOCKED, "swap", 3, 4, 0, 0, 1, 0);
        refuses(STOCKED, NOBODY, "swap", 0, 0, 0, 0);
        refuses(STOCKED, NOBODY, "swap", 0, 4, 0, 4);
        refuses(STOCKED, NOBODY, "swap", 1, 1, 1, 1);
        refuses(STOCKED, NOBODY, "swap", 1, 1, 1, 4);
        takes(STOCKED, 1, "swap", 0, 0, 1, 0);
        takes(STOCKED, 1, "swap", 0, 0, 0, 4);
        takes(STOCKED, 1, "swap", 0, 1, 1, 1);
        takes(STOCKED, 1, "swap", 1, 3, 0, 3);
        takes(STOCKED, 1, "swap", 1, 0, 1, 1);
        refuses(STOCKED, STATE, "swap", 1, 1, 1, 2);
        refuses(STOCKED, STATE, "swap", 1, 3, 1, 2);
        takes(ROOM_FOR_TWO, 1, "swap", 0, 0, 0, 1);
        refuses(ROOM_FOR_ONE, ROOM, "swap", 0, 0, 0, 1);
        takes(ROOM_FOR_ONE, 1, "swap", 0, 0, 0, 2);
        takes(ROOM_FOR_ONE, 1, "swap", 0, 2, 0, 1);
        refuses(FULL, ROOM, "swap", 0, 0, 0, 1);
        refuses(FULL, ROOM, "swap", 0, 0, 0, 2);
        refuses(FULL, ROOM, "swap", 0, 2, 0, 0);
        refuses(FULL, NOBODY, "swap", 0, 0, 0, 0);
        refuses(FULL, NOBODY, "swap", 0, 0, 0, 3);
        Supplier<TyreBook> fullWithTwoEmpty = () -> {
            TyreBook x = FULL.get();
            x.place(0, Books.SPARE);
            return x;
        };
        refuses(fullWithTwoEmpty, STATE, "swap", 0, 2, 0, 3);
    }

    private static void promise11() {
        noSuch(STOCKED, "read", 0, 11, 0, 100);
        outside(STOCKED, "read", 1, 0, 300, 0, 0);
        outside(STOCKED, "read", 1, 0, 300, 6, 0);
        takes(STOCKED, 2, "read", 0, 0);
        takes(STOCKED, 2, "read", 0, 300);
        takes(STOCKED, 3, "read", 1, 170);
        takes(STOCKED, 2, "read", 10, 180);
        for (int gone : new int[] {7, 8}) {
            refuses(STOCKED, STATE, "read", gone, 100);
            refuses(STOCKED, STATE, "read", gone, -1);
            refuses(STOCKED, STATE, "read", gone, 301);
        }
        nobodyFirst(STOCKED, "read", -1, 301, 11, 0);
        nobodyFirst(STOCKED, "read", -1, 301, -1, 0);
        takes(FULL, 2, "read", 0, 100);
    }

    /** DRIVE, LIFT and SPARE with tyres 0, 1, 2 that do not wear; tyre 0 has gone this far. */
    private static TyreBook driven(int lengths) {
        TyreBook x = Books.laidWith(Books.DRIVE, Books.LIFT, Books.SPARE);
        x.maker(0, 0);
        int left = lengths;
        for (; left >= 10000; left -= 10000) {
            x.go(0, 10000, false);
        }
        if (left > 0) {
            x.go(0, left, false);
        }
        return x;
    }

    private static Supplier<TyreBook> drivenAndSwapped(int place) {
        return () -> {
            TyreBook x = driven(1000000);
            x.swap(0, 0, 0, place);
            return x;
        };
    }

    private static void promise12() {
        noSuch(STOCKED, "go", 0, 3, 0, 1, 1);
        outside(STOCKED, "go", 1, 1, 10000, 0, 0, 1);
        outside(STOCKED, "go", 1, 1, 10000, 0, 0, 0);
        takes(STOCKED, 78999, "go", 0, 1, 1);
        takes(STOCKED, 69000, "go", 0, 10000, 0);
        for (int n : new int[] {1, 0, LOW, 10001, HIGH}) {
            refuses(STOCKED, STATE, "go", 1, n, 1);
        }
        for (int n : new int[] {0, 10001}) {
            refuses(STOCKED, NOBODY, "go", 3, n, 0);
        }
        takes(STOCKED, 1000000, "go", 2, 10000, 1);
        refuses(STOCKED, BELOW, "go", 2, 0, 1);
        refuses(STOCKED, ROOM, "go", 2, 10001, 1);

        takes(() -> driven(999999), 1000000, "go", 0, 1, 1);
        refuses(() -> driven(999999), ROOM, "go", 0, 2, 1);
        takes(() -> driven(990000), 1000000, "go", 0, 10000, 0);
        refuses(() -> driven(990001), ROOM, "go", 0, 10000, 0);
        refuses(() -> driven(1000000), ROOM, "go", 0, 1, 0);
        refuses(() -> driven(1000000), BELOW, "go", 0, 0, 0);
        takes(drivenAndSwapped(2), 1000000, "go", 0, 1, 1);
        takes(drivenAndSwapped(1), 1000000, "go", 0, 1, 0);
        refuses(drivenAndSwapped(1), ROOM, "go", 0, 1, 1);
        Supplier<TyreBook> unfitAndFar = () -> {
            TyreBook x = driven(1000000);
            x.take(0, 1);
            return x;
        };
        refuses(unfitAndFar, STATE, "go", 0, 1, 0);
    }

    private static void promises13And14() {
        noSuch(STOCKED, "why", 0, 3, 0);
        tells(STOCKED, -9, "why", 0);
        tells(STOCKED, 11, "why", 1);
        tells(STOCKED, -9, "why", 2);
        noSuch(STOCKED, "far", 0, 3, 0);
        tells(STOCKED, 79000, "far", 0);
        tells(STOCKED, 160000, "far", 1);
        tells(STOCKED, 1000000, "far", 2);
    }

    /** A STEER with TREADS, and an empty DRIVE and SPARE onto which it may not go, as the STEER had one. */
    private static TyreBook trodden() {
        TyreBook x = Books.laidWith(Books.STEER);
        Books.treadOn(x, 0);
        x.place(0, Books.DRIVE);
        x.place(0, Books.SPARE);
        return x;
    }

    private static TyreBook fullAndTrodden() {
        TyreBook x = Books.swappedUntil(592, Books.DRIVE, Books.DRIVE);
        x.take(0, 1);
        x.take(0, 0);
        x.send(0);
        x.days(10);
        x.wagon();
        x.place(1, Books.STEER);
        x.put(0, 1, 0);
        x.buy(0);
        x.buy(0);
        x.buy(0);
        return x;
    }

    private static void promises15And16() {
        for (String name : new String[] {"best", "turn"}) {
            noSuch(STOCKED, name, 0, 3, 0);
            refuses(STOCKED, STATE, name, 2);
            refuses(() -> Books.placesOf(Books.DRIVE, Books.SPARE), STATE, name, 0);
            refuses(CallBoundsTest::trodden, STATE, name, 0);
            refuses(CallBoundsTest::fullAndTrodden, STATE, name, 0);
            refuses(CallBoundsTest::fullAndTrodden, STATE, name, 1);
            refuses(CallBoundsTest::fullAndTrodden, NOBODY, name, 2);
        }
        due("a full log", fullAndTrodden().count(7), 600);
        tells(STOCKED, 160000, "best", 1);
        // The spare tyre lasts 150000 on the STEER, whose own lasts 159000 as a TWIN; the TWIN that wears fast is spared.
        tells(STOCKED, 150000, "best", 0);
        takes(STOCKED, 3, "turn", 0);
        takes(STOCKED, 0, "turn", 1);
        tells(() -> wornSteer(600), 24000, "best", 0);
        refuses(() -> wornSteer(600), ROOM, "turn", 0);
        refuses(() -> wornSteer(599), ROOM, "turn", 0);
        takes(() -> wornSteer(598), 2, "turn", 0);
        tells(() -> Books.swappedUntil(600, Books.STEER, Books.LIFT), 0, "turn", 0);
    }

    /** Tyres 0 and 1 on STEER and LIFT, to be turned about as the STEER's is the worse; the LOG has this many. */
    private static TyreBook wornSteer(int kept) {
        int more = kept % 2 == 0 ? 2 : 1;
        TyreBook x = Books.swappedUntil(kept - more, Books.STEER, Books.LIFT);
        for (int i = 0; i < more; i++) {
            x.buy(0);
        }
        x.read(x.placeOf(0, 0, 1), 40);
        return x;
    }

    private static void promise17() {
        noSuch(STOCKED, "wear", 0, 11, 0, 0);
        tells(STOCKED, 1, "wear", 1, 0);
        tells(STOCKED, 500, "wear", 1, 1);
        for (int what : new int[] {-1, 2, LOW, HIGH}) {
            refuses(STOCKED, STATE, "wear", 1, what);
            refuses(STOCKED, NOBODY, "wear", 11, what);
        }
        for (int gone : new int[] {7, 8}) {
            tells(STOCKED, 1000, "wear", gone, 1);
        }
    }

    private static void promise18() {
        noSuch(STOCKED, "depth", 0, 11, 0, 0);
        outside(STOCKED, "depth", 1, 0, 1000000, 0, 0);
        tells(STOCKED, 179, "depth", 0, 0);
        tells(STOCKED, 0, "depth", 0, 1000000);
        tells(STOCKED, 178, "depth", 10, 2000);
        nobodyFirst(STOCKED, "depth", -1, 1000001, 11, 0);
        nobodyFirst(STOCKED, "depth", LOW, HIGH, -1, 0);
        tells(() -> driven(1000000), 180, "depth", 0, 1000000);
    }

    private static void promise19() {
        noSuch(STOCKED, "end", 0, 11, 0, 0);
        outside(STOCKED, "end", 1, 0, 300, 0, 0);
        tells(STOCKED, 1000000, "end", 0, 0);
        tells(STOCKED, 178000, "end", 0, 1);
        tells(STOCKED, 0, "end", 0, 300);
        nobodyFirst(STOCKED, "end", -1, 301, 11, 0);
        nobodyFirst(STOCKED, "end", LOW, HIGH, -1, 0);
    }

    private static TyreBook mended(int times, int day) {
        TyreBook x = Books.onDay(day);
        for (int i = 0; i < times; i++) {
            x.mend(0);
        }
        return x;
    }

    private static TyreBook troddenTimes(int times) {
        TyreBook x = Books.bought(1);
        for (int i = 0; i < times; i++) {
            Books.treadAnew(x, 0);
        }
        return x;
    }

    private static void promise20() {
        noSuch(STOCKED, "send", 0, 11, 0);
        takes(STOCKED, 45, "send", 6);
        for (int wrong : new int[] {0, 4, 5, 7, 8, 9, 10}) {
            refuses(STOCKED, STATE, "send", wrong);
        }
        takes(() -> mended(2, 0), 10, "send", 0);
        refuses(() -> mended(3, 0), STATE, "send", 0);
        takes(() -> troddenTimes(1), 20, "send", 0);
        refuses(() -> troddenTimes(2), STATE, "send", 0);
        takes(() -> Books.onDay(1990), 2000, "send", 0);
        refuses(() -> Books.onDay(1991), ROOM, "send", 0);
        refuses(() -> Books.onDay(2000), ROOM, "send", 0);
        refuses(() -> mended(3, 1991), STATE, "send", 0);
        refuses(() -> Books.onDay(1991), NOBODY, "send", 1);
        takes(ROOM_FOR_ONE, 10, "send", 2);
        refuses(FULL, ROOM, "send", 2);
        refuses(FULL, STATE, "send", 0);
        refuses(FULL, NOBODY, "send", 3);
    }

    private static void promise21() {
        noSuch(STOCKED, "mend", 0, 11, 0);
        takes(STOCKED, 1, "mend", 6);
        takes(() -> mended(8, 0), 9, "mend", 0);
        refuses(() -> mended(9, 0), ROOM, "mend", 0);
        refuses(STOCKED, ROOM, "mend", 10);
        for (int wrong : new int[] {0, 4, 7, 8}) {
            refuses(STOCKED, STATE, "mend", wrong);
        }
        Supplier<TyreBook> mendedAndPut = () -> {
            TyreBook x = STOCKED.get();
            x.put(10, 1, 1);
            return x;
        };
        refuses(mendedAndPut, STATE, "mend", 10);
        takes(FULL, 1, "mend", 2);
    }

    private static void promise22() {
        noSuch(STOCKED, "cast", 0, 11, 0);
        takes(STOCKED, 1, "cast", 6);
        takes(STOCKED, 1, "cast", 9);
        takes(STOCKED, 1, "cast", 10);
        for (int wrong : new int[] {0, 4, 7, 8}) {
            refuses(STOCKED, STATE, "cast", wrong);
        }
        takes(ROOM_FOR_ONE, 1, "cast", 2);
        refuses(FULL, ROOM, "cast", 2);
        refuses(FULL, STATE, "cast", 1);
        refuses(FULL, NOBODY, "cast", 3);
    }

    private static void promise23() {
        outside(TyreBook::new, "days", 0, 1, 2000, 0);
        takes(TyreBook::new, 1, "days", 1);
        takes(TyreBook::new, 2000, "days", 2000);
        outside(STOCKED, "days", 0, 1, 1965, 0);
        takes(STOCKED, 36, "days", 1);
        takes(STOCKED, 2000, "days", 1965);
        takes(() -> Books.onDay(1999), 2000, "days", 1);
        outside(() -> Books.onDay(1999), "days", 0, 1, 1, 0);
        outside(() -> Books.onDay(2000), "days", 0, 1, 0, 0);
        takes(FULL, 2000, "days", 2000);
    }

    private static void promise24() {
        noSuch(STOCKED, "few", 0, 3, 0, 0, 0);
        noSuch(STOCKED, "few", 1, 4, 0, 0, 0);
        outside(STOCKED, "few", 2, 0, 1000000, 0, 0, 0);
        outside(STOCKED, "few", 2, 0, 1000000, 2, 3, 0);
        tells(STOCKED, 0, "few", 0, 0, 0);
        tells(STOCKED, 1, "few", 1, 3, 0);
        tells(STOCKED, 0, "few", 2, 0, 1000000);
        // STEER 149000 and 6 of 150000; TWINS 79000 and 159000 and 6 of 160000 each; LIFT 163000 and 6 of 164000.
        tells(STOCKED, 24, "few", 0, 0, 1000000);
        nobodyFirst(STOCKED, "few", -1, 1000001, 3, 0, 0);
        nobodyFirst(STOCKED, "few", -1, 1000001, 0, 4, 0);
    }

    /** The three refusals have numbers of their own, and are counted as -1, -4, -6. */
    private static void asOfRefuses(int answer, int tyre, int day) {
        changesOnly(STOCKED, answer, -answer, new Probe("asOf", tyre, day));
    }

    private static void promise25() {
        for (int tyre : new int[] {-1, 11, LOW, HIGH}) {
            for (int day : new int[] {0, -1, 36}) {
                asOfRefuses(-11, tyre, day);
            }
        }
        asOfRefuses(-14, 0, -1);
        asOfRefuses(-14, 0, LOW);
        asOfRefuses(-16, 0, 36);
        asOfRefuses(-16, 0, HIGH);
        tells(STOCKED, 0, "asOf", 0, 0);
        tells(STOCKED, 0, "asOf", 0, 35);
        tells(STOCKED, 10, "asOf", 5, 35);
        tells(STOCKED, -1, "asOf", 10, 35);
        tells(STOCKED, -2, "asOf", 7, 35);
        tells(STOCKED, -3, "asOf", 8, 0);
    }

    private static void promise26() {
        int[] sent = {2, 0, 0, 0, 0, 1, -2, 180, 40};
        int[] gone = {0, 0, 0, 0, 1000, 2, 1, 178, -9};
        for (int what = 0; what <= 8; what++) {
            tells(STOCKED, sent[what], "tyreOf", 7, what);
            tells(STOCKED, gone[what], "tyreOf", 1, what);
        }
        for (int tyre : new int[] {-1, 11, LOW, HIGH}) {
            tells(STOCKED, -20, "tyreOf", tyre, 0);
            tells(STOCKED, -20, "tyreOf", tyre, 9);
        }
        for (int what : new int[] {-1, 9, LOW, HIGH}) {
            tells(STOCKED, -20, "tyreOf", 0, what);
        }
    }

    private static void promise27() {
        tells(STOCKED, 0, "reading", 1, 0, 0);
        tells(STOCKED, 180, "reading", 1, 0, 1);
        tells(STOCKED, 1000, "reading", 1, 1, 0);
        tells(STOCKED, 178, "reading", 1, 1, 1);
        tells(STOCKED, 180, "reading", 10, 0, 1);
        for (int wrong : new int[] {-1, 11, LOW, HIGH}) {
            tells(STOCKED, -9, "reading", wrong, 0, 0);
        }
        for (int wrong : new int[] {-1, 2, 12, LOW, HIGH}) {
            tells(STOCKED, -9, "reading", 1, wrong, 0);
            tells(STOCKED, -9, "reading", 1, 1, wrong);
        }
    }

    private static void promise28() {
        tells(STOCKED, 0, "placeOf", 0, 0, 0);
        tells(STOCKED, 4, "placeOf", 1, 3, 0);
        tells(STOCKED, 4, "placeOf", 0, 4, 1);
        tells(STOCKED, -9, "placeOf", 1, 1, 1);
        tells(STOCKED, 2, "placeOf", 0, 1, 2);
        tells(STOCKED, 1, "placeOf", 0, 2, 2);
        tells(STOCKED, -9, "placeOf", 0, 0, 2);
        for (int wrong : new int[] {-1, 3, LOW, HIGH}) {
            tells(STOCKED, -9, "placeOf", wrong, 0, 0);
            tells(STOCKED, -9, "placeOf", 0, 1, wrong);
        }
        for (int wrong : new int[] {-1, 5, 7, LOW, HIGH}) {
            tells(STOCKED, -9, "placeOf", 0, wrong, 0);
        }
        tells(STOCKED, -9, "placeOf", 2, 0, 0);
        tells(STOCKED, -9, "placeOf", 1, 4, 0);
    }

    private static void promise29() {
        int[] counts = {35, 3, 11, 3, 6, 1, 1, 23};
        for (int what = 0; what <= 7; what++) {
            tells(STOCKED, counts[what], "count", what);
        }
        for (int what = 11; what <= 16; what++) {
            tells(STOCKED, 0, "count", what);
        }
        for (int what : new int[] {-1, 8, 9, 10, 17, LOW, HIGH}) {
            tells(STOCKED, -9, "count", what);
        }
        tells(FULL, 600, "count", 7);
        tells(ROOM_FOR_ONE, 599, "count", 7);
    }

    private static void run(String name, Runnable test) {
        promise = name;
        test.run();
    }

    public static void main(String[] args) {
        run("promise 2", CallBoundsTest::promise2);
        run("promise 3", CallBoundsTest::promise3);
        run("promise 4", CallBoundsTest::promise4);
        run("promise 5", CallBoundsTest::promise5);
        run("promise 6", CallBoundsTest::promise6);
        run("promise 7", CallBoundsTest::promise7);
        run("promise 8", CallBoundsTest::promise8);
        run("promise 9", CallBoundsTest::promise9);
        run("promise 10", CallBoundsTest::promise10);
        run("promise 11", CallBoundsTest::promise11);
        run("promise 12", CallBoundsTest::promise12);
        run("promises 13 and 14", CallBoundsTest::promises13And14);
        run("promises 15 and 16", CallBoundsTest::promises15And16);
        run("promise 17", CallBoundsTest::promise17);
        run("promise 18", CallBoundsTest::promise18);
        run("promise 19", CallBoundsTest::promise19);
        run("promise 20", CallBoundsTest::promise20);
        run("promise 21", CallBoundsTest::promise21);
        run("promise 22", CallBoundsTest::promise22);
        run("promise 23", CallBoundsTest::promise23);
        run("promise 24", CallBoundsTest::promise24);
        run("promise 25", CallBoundsTest::promise25);
        run("promise 26", CallBoundsTest::promise26);
        run("promise 27", CallBoundsTest::promise27);
        run("promise 28", CallBoundsTest::promise28);
        run("promise 29", CallBoundsTest::promise29);
        CHECK.end();
    }
}
