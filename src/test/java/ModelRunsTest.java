import java.lang.reflect.Method;
import java.util.Map;
import java.util.TreeMap;

/** Long runs of calls, chosen by a fixed sequence of numbers: TyreBook and Model must answer alike. */
public final class ModelRunsTest {
    private static final String[] NAMES = {"wagon", "place", "least", "apart", "maker", "buy", "put", "take", "swap",
        "read", "go", "why", "far", "best", "turn", "wear", "depth", "end", "send", "mend", "cast", "days", "few",
        "asOf", "tyreOf", "reading", "placeOf", "count"};
    private static final int CALLS = 512;
    /** How often each call comes, by NAMES, in each kind of run. */
    private static final int[][] WEIGHTS = {
        {2, 6, 2, 2, 2, 8, 8, 3, 6, 8, 12, 4, 4, 3, 3, 4, 4, 5, 3, 2, 1, 3, 4, 5, 5, 3, 3, 3},
        {1, 6, 1, 1, 1, 6, 10, 4, 60, 3, 4, 1, 1, 1, 8, 1, 1, 1, 3, 0, 0, 2, 1, 6, 3, 0, 2, 4},
        {1, 5, 2, 2, 2, 6, 8, 1, 3, 20, 40, 2, 3, 3, 6, 4, 4, 4, 1, 0, 0, 1, 4, 1, 4, 4, 1, 1},
        {1, 4, 1, 1, 1, 10, 8, 6, 2, 4, 6, 2, 2, 3, 4, 1, 1, 1, 20, 2, 1, 14, 2, 10, 8, 2, 2, 3},
        {3, 10, 4, 1, 4, 10, 30, 10, 6, 20, 20, 4, 4, 14, 30, 2, 2, 4, 10, 0, 0, 6, 6, 4, 4, 0, 4, 1},
        {1, 2, 0, 0, 0, 30, 40, 20, 80, 2, 2, 0, 0, 0, 20, 0, 0, 0, 20, 0, 6, 2, 0, 10, 4, 0, 0, 4},
        {0, 0, 0, 0, 0, 1, 2, 1, 160, 4, 6, 0, 0, 1, 40, 0, 0, 0, 3, 0, 1, 1, 0, 6, 3, 0, 2, 4},
        {0, 0, 1, 1, 2, 1, 1, 0, 1, 30, 160, 2, 2, 2, 4, 4, 4, 4, 0, 0, 0, 0, 4, 0, 6, 6, 1, 1},
        {0, 0, 0, 0, 1, 0, 20, 2, 1, 80, 40, 2, 4, 2, 4, 20, 8, 8, 3, 0, 0, 6, 4, 2, 6, 20, 1, 1},
    };
    /** Kinds of runs whose wagons are whole from the start: swapped until the LOG is full; driven on and on; read often. */
    private static final int SWAPPED = 6;
    private static final int DRIVEN = 7;
    private static final int WELL_READ = 8;

    private static final Check CHECK = new Check();
    private static final Map<String, Method> BOOK = Face.of(TyreBook.class);
    private static final Map<String, Method> MODEL = Face.of(Model.class);
    private static final Map<String, Integer> SEEN = new TreeMap<>();
    private long seed;
    private int style;
    private final int[] places = new int[5];

    private ModelRunsTest(long seed) {
        this.seed = seed * 2654435761L + 12345;
        style = (int) (seed % WEIGHTS.length);
    }

    private int below(int n) {
        seed = seed * 6364136223846793005L + 1442695040888963407L;
        return (int) ((seed >>> 33) % n);
    }

    /** Mostly 0 .. n - 1; now and then the edges, or far outside. */
    private int number(int n) {
        switch (below(60)) {
            case 0: return -1;
            case 1: return n;
            case 2: return n - 1;
            case 3: return below(6) > 0 ? 0 : Integer.MIN_VALUE;
            case 4: return below(6) > 0 ? n - 1 : Integer.MAX_VALUE;
            default: return below(n);
        }
    }

    private int placeNumber(int wagon) {
        return style == SWAPPED && wagon >= 0 && wagon < 2 ? number(places[wagon]) : number(7);
    }

    private int[] swapArgs() {
        int wagon = wagonNumber();
        int other = wagonNumber();
        return new int[] {wagon, placeNumber(wagon), other, placeNumber(other)};
    }

    private int depthToRead() {
        return style >= DRIVEN ? 170 + below(12) : below(3) == 0 ? number(301) : 120 + below(62);
    }

    private int wagonNumber() {
        return style == 0 ? number(3) : style == 3 ? number(2) : below(12) == 0 ? number(5) : below(2);
    }

    private int tyreNumber() {
        return number(style == 5 ? 40 : style == WELL_READ ? 3 : 16);
    }

    private int[] args(int op) {
        switch (NAMES[op]) {
            case "wagon": return new int[] {0, 0, 0, 0};
            case "place": return new int[] {wagonNumber(), number(5), 0, 0};
            case "least": return new int[] {number(5), below(4) == 0 ? number(4) : number(101), 0, 0};
            case "apart": return new int[] {number(101), 0, 0, 0};
            case "maker": return new int[] {number(4), below(4) == 0 ? 0 : number(1001), 0, 0};
            case "buy": return new int[] {number(4), 0, 0, 0};
            case "put": return new int[] {tyreNumber(), wagonNumber(), number(7), 0};
            case "take": return new int[] {wagonNumber(), number(7), 0, 0};
            case "swap": return swapArgs();
            case "read": return new int[] {tyreNumber(), depthToRead(), 0, 0};
            case "go": return new int[] {wagonNumber(), below(4) > 0 ? number(10001) : 10000 - below(3), below(2), 0};
            case "wear": return new int[] {tyreNumber(), number(2), 0, 0};
            case "depth": return new int[] {tyreNumber(), below(2) == 0 ? number(1000001) : number(100000), 0, 0};
            case "end": return new int[] {tyreNumber(), below(2) == 0 ? number(301) : number(180), 0, 0};
            case "send": case "mend": case "cast": return new int[] {tyreNumber(), 0, 0, 0};
            case "days": return new int[] {below(20) == 0 ? number(2001) : number(14), 0, 0, 0};
            case "few": return new int[] {wagonNumber(), number(4), below(9) == 0 ? 0 : number(1000001), 0};
            case "asOf": return new int[] {tyreNumber(), number(below(3) == 0 ? 300 : 40), 0, 0};
            case "tyreOf": return new int[] {tyreNumber(), number(9), 0, 0};
            case "reading": return new int[] {tyreNumber(), number(12), number(2), 0};
            case "placeOf": return new int[] {wagonNumber(), number(7), number(3), 0};
            case "count": return new int[] {number(18), 0, 0, 0};
            default: return new int[] {wagonNumber(), 0, 0, 0};
        }
    }

    private int call() {
        int sum = 0;
        for (int weight : WEIGHTS[style]) {
            sum += weight;
        }
        int left = below(sum);
        for (int op = 0; op < NAMES.length; op++) {
            left -= WEIGHTS[style][op];
            if (left < 0) {
                return op;
            }
        }
        return 0;
    }

    private static void both(TyreBook book, Model model, String where, String name, int[] a) {
        long want = Face.ask(model, MODEL.get(name), a);
        CHECK.due(where + Face.told(name, a), Face.ask(book, BOOK.get(name), a), want);
        tally(name, want);
    }

    private static void tally(String name, long want) {
        String key = name + (want < 0 ? " " + want : want == 0 ? " 0" : " +");
        SEEN.merge(key, 1, Integer::sum);
    }

    private int setUp(TyreBook book, Model model, String where) {
        int calls = 0;
        int tyre = 0;
        boolean whole = style >= SWAPPED || below(2) == 0;
        if (style >= DRIVEN) {
            both(book, model, where, "apart", new int[] {100, 0, 0, 0});
            both(book, model, where, "maker", new int[] {0, below(2), 0, 0});
            both(book, model, where, "maker", new int[] {1, below(8), 0, 0});
            calls += 3;
        }
        for (int w = 0; w < 2; w++) {
            both(book, model, where, "wagon", new int[4]);
            calls++;
            places[w] = style == WELL_READ ? 1 + below(2) : 3 + below(5);
            for (int p = 0; p < places[w]; p++) {
                both(book, model, where, "place", new int[] {w, below(5), 0, 0});
                both(book, model, where, "buy", new int[] {below(style >= DRIVEN ? 2 : 4), 0, 0, 0});
                calls += 2;
                if (whole) {
                    both(book, model, where, "put", new int[] {tyre, w, p, 0});
                    calls++;
                }
                tyre++;
            }
        }
        return calls;
    }

    private void run(long number) {
        TyreBook book = new TyreBook();
        Model model = new Model();
        String where = "run " + number + ": ";
        for (int i = setUp(book, model, where); i < CALLS; i++) {
            int op = call();
            both(book, model, where + "call " + i + ": ", NAMES[op], args(op));
        }
    }

    public static void main(String[] args) {
        int runs = args.length > 0 ? Integer.parseInt(args[0]) : 720;
        for (int i = 0; i < runs; i++) {
            new ModelRunsTest(i).run(i);
        }
        if (args.length > 1) {
            System.out.println(SEEN);
        }
        CHECK.end();
    }
}
