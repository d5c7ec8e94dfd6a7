import java.util.Arrays;
import java.util.Map;
import java.util.TreeMap;

/** All promises: runs of 512 calls, no more are promised, on a desk and on PlainDesk, which must answer alike. */
public final class ModelTest {
    private static final Due T = new Due();
    private static final int RUNS = 1500, CALLS = 512, KEPT_FOR_THE_END = 100;
    private static final String[] NAMES = {"cloth", "at", "isSelected", "about", "used", "floats", "run", "handle",
        "bind", "same", "call", "macro", "part", "nest", "times", "play", "outcome", "node", "go", "undo", "redo",
        "told", "squeeze", "trace", "digest"};
    /** How often each call comes, by the way of the run. */
    private static final int[][] WEIGHTS = {
        {1, 2, 2, 4, 2, 8, 60, 12, 12, 6, 30, 10, 24, 16, 8, 40, 20, 4, 20, 10, 10, 20, 12, 4, 4},
        {0, 1, 1, 2, 1, 4, 10, 6, 6, 4, 10, 12, 40, 40, 8, 40, 20, 4, 20, 10, 10, 20, 12, 4, 4},
        {8, 2, 2, 4, 4, 12, 120, 4, 4, 2, 10, 2, 4, 2, 1, 10, 20, 4, 10, 5, 5, 10, 5, 4, 4},
        {0, 1, 1, 2, 1, 2, 20, 2, 2, 2, 5, 2, 4, 2, 1, 5, 4, 4, 40, 20, 15, 40, 30, 4, 4},
        {0, 1, 1, 2, 1, 2, 10, 30, 50, 20, 30, 20, 20, 10, 5, 10, 4, 4, 5, 2, 2, 5, 2, 4, 4},
    };
    /** Numbers of each kind of command: {least, most} of a .. e; rows and columns are less than 10. */
    private static final int[][] FIT = {
        {0, 9, 0, 9, 0, 9, 0, 9, 0, 9}, {0, 9, 0, 9, 0, 9, 0, 9, 0, 9}, {0, 9, 0, 9, 0, 9, 0, 9, 0, 9},
        {0, 9, 0, 9, 0, 511, 0, 7, 0, 9}, {0, 1, 0, 9, 0, 9, 0, 9, 0, 9}, {-20, 20, -20, 20, 0, 9, 0, 9, 0, 9},
        {1, 5, 0, 9, 0, 9, 0, 9, 0, 9}, {0, 9, 0, 9, 0, 9, 0, 9, 0, 9}, {1, 9, 0, 9, 0, 9, 0, 9, 0, 9},
        {0, 6, 0, 6, 1, 6, 1, 6, 0, 3}, {0, 9, 0, 9, 0, 9, 0, 9, 0, 9}, {0, 2, 0, 9, 0, 9, 0, 9, 0, 9},
        {0, 2, 0, 1, 0, 9, 0, 9, 0, 9}};
    private static final int[] EDGES = {-1, 10, 11, 13, 20, 21, -20, -21, 40, 60, 300, 511, 512, -2, -9,
        Integer.MIN_VALUE, Integer.MAX_VALUE};

    private static final int ABOUT = 3, PLAY = 15, OUTCOME = 16, GO = 18, TOLD = 21, DIGEST = 24;

    private static long seed;
    private static TapestryDesk x;
    private static PlainDesk y;
    private static int asked;
    private static final Map<String, Integer> SEEN = new TreeMap<>();

    public static void main(String[] args) {
        for (int run = 1; run <= RUNS && T.wrongCount() == 0; run++) {
            oneRun(run);
        }
        isSeenEnough();
        T.end();
    }

    private static int below(int n) {
        seed = seed * 6364136223846793005L + 1442695040888963407L;
        return (int) ((seed >>> 33) % n);
    }

    /** A number of least .. most; now and then one right beyond, or an edge of something else. */
    private static int number(int least, int most, int odd) {
        int die = below(odd);
        if (die == 0) {
            return EDGES[below(EDGES.length)];
        }
        return die == 1 ? (below(2) == 0 ? least - 1 : most + 1) : least + below(most - least + 1);
    }

    private static void oneRun(int run) {
        seed = run * 7919L;
        x = new TapestryDesk();
        y = new PlainDesk();
        asked = 0;
        int[] weights = WEIGHTS[run % WEIGHTS.length];
        int odd = run % 3 == 0 ? 20 : 120;
        boolean closely = run % 2 == 0;
        StringBuilder calls = new StringBuilder();
        while (asked < CALLS - KEPT_FOR_THE_END && T.wrongCount() == 0) {
            int call = drawn(weights);
            int[] v = numbersFor(call, y, odd);
            calls.append(NAMES[call]).append(Arrays.toString(v)).append(' ');
            bothAnswer(run, call, v);
            if (closely) {
                bothAnswer(run, DIGEST);
                bothAnswer(run, OUTCOME, below(5));
            }
        }
        atTheEnd(run);
        if (T.wrongCount() > 0) {
            System.out.println(calls);
        }
    }

    private static void bothAnswer(int run, int call, int... v) {
        long want = onPlain(y, call, v);
        long got = onDesk(x, call, v);
        asked++;
        T.due("run " + run + ", call " + asked + ": " + NAMES[call] + Arrays.toString(v), got, want);
        SEEN.merge(NAMES[call] + (want < 0 && want >= -9 ? " " + want : " fine"), 1, Integer::sum);
        if (call == PLAY) {
            SEEN.merge("play fails of " + y.outcome(0), 1, Integer::sum);
        }
    }

    private static void atTheEnd(int run) {
        for (int what = 0; what < 9; what++) {
            bothAnswer(run, ABOUT, what);
        }
        while (asked + 7 <= CALLS && T.wrongCount() == 0) {
            int node = below(y.about(8));
            for (int what = 0; what < 5; what++) {
                bothAnswer(run, TOLD, node, what);
            }
            bothAnswer(run, GO, node);
            bothAnswer(run, DIGEST);
        }
    }

    private static int drawn(int[] weights) {
        int sum = 0;
        for (int w : weights) {
            sum += w;
        }
        int left = below(sum);
        int call = 0;
        while (left >= weights[call]) {
            left -= weights[call];
            call++;
        }
        return call;
    }

    private static int[] numbersFor(int call, PlainDesk y, int odd) {
        int handles = Math.max(1, y.about(5)) - 1;
        int macros = Math.max(1, y.about(6)) - 1;
        int nodes = y.about(8) - 1;
        switch (NAMES[call]) {
            case "cloth": return new int[] {number(1, 10, odd), number(1, 10, odd)};
            case "at": return new int[] {number(0, y.about(0) - 1, odd), number(0, y.about(1) - 1, odd), number(-1, 2, odd)};
            case "isSelected": return new int[] {number(0, y.about(0) - 1, odd), number(0, y.about(1) - 1, odd)};
            case "about": return new int[] {number(0, 8, odd)};
            case "used": return new int[] {number(0, 9, odd)};
            case "floats": return new int[] {number(0, 3, odd), number(0, 5, odd), number(0, 3, odd)};
            case "run": return ofCommand(y, odd);
            case "handle": return new int[] {number(0, 12, odd)};
            case "bind": return new int[] {number(0, handles, odd), number(0, 4, odd), number(0, 4, odd)};
            case "same": return new int[] {number(0, handles, odd), number(0, handles, odd)};
            case "call": return called(number(0, handles, odd), 5, odd);
            case "macro": return new int[] {number(0, 3, odd), number(0, 9, odd), number(0, 9, odd), number(0, 2, odd)};
            case "part": return partOf(number(0, macros, odd), number(0, handles, odd), odd);
            case "nest": return new int[] {number(0, macros, odd), number(0, macros, odd)};
            case "times": return new int[] {number(0, macros, odd), number(0, 9, odd)};
            case "play": return new int[] {number(0, macros, odd)};
            case "outcome": return new int[] {number(0, 4, odd)};
            case "go": case "squeeze": return new int[] {number(0, nodes, odd)};
            case "told": return new int[] {number(0, nodes, odd), number(0, 4, odd)};
            default: return new int[0];
        }
    }

    private static int[] ofCommand(PlainDesk y, int odd) {
        int kind = below(300) == 0 ? 13 : below(13);
        int[] v = new int[6];
        v[0] = kind;
        for (int i = 0; i < 5; i++) {
            int[] fit = FIT[Math.min(kind, 12)];
            int most = fit[2 * i + 1];
            boolean place = kind <= 3 && (i < 2 || kind == 2 && i < 4);
            if (place) {
                most = y.about(i % 2) - 1;
            }
            v[i + 1] = number(fit[2 * i], most, odd);
        }
        // Small selections and few wools make what is beyond plain painting come often enough.
        if (kind < 9 && v[5] > 3 && v[5] <= 9 && below(2) == 0) {
            v[5] = below(4);
        }
        if (kind == 9 && below(3) > 0) {
            v[5] = below(2);
        }
        return v;
    }

    private static int[] called(int first, int count, int odd) {
        int[] v = new int[count + 1];
        v[0] = first;
        for (int i = 1; i <= count; i++) {
            v[i] = number(0, 3, odd);
        }
        return v;
    }

    private static int[] partOf(int macro, int handle, int odd) {
        int[] v = called(0, 5, odd);
        v[0] = macro;
        v[1] = handle;
        return v;
    }

    private static long onDesk(TapestryDesk x, int call, int[] v) {
        switch (NAMES[call]) {
            case "cloth": return x.cloth(v[0], v[1]);
            case "at": return x.at(v[0], v[1], v[2]);
            case "isSelected": return x.isSelected(v[0], v[1]);
            case "about": return x.about(v[0]);
            case "used": return x.used(v[0]);
            case "floats": return x.floats(v[0], v[1], v[2]);
            case "run": return x.run(v[0], v[1], v[2], v[3], v[4], v[5]);
            case "handle": return x.handle(v[0]);
            case "bind": return x.bind(v[0], v[1], v[2]);
            case "same": return x.same(v[0], v[1]);
            case "call": return x.call(v[0], v[1], v[2], v[3], v[4], v[5]);
            case "macro": return x.macro(v[0], v[1], v[2], v[3]);
            case "part": return x.part(v[0], v[1], v[2], v[3], v[4], v[5]);
            case "nest": return x.nest(v[0], v[1]);
            case "times": return x.times(v[0], v[1]);
            case "play": return x.play(v[0]);
            case "outcome": return x.outcome(v[0]);
            case "node": return x.node();
            case "go": return x.go(v[0]);
            case "undo": return x.undo();
            case "redo": return x.redo();
            case "told": return x.told(v[0], v[1]);
            case "squeeze": return x.squeeze(v[0]);
            case "trace": return x.trace();
            default: return x.digest();
        }
    }

    private static long onPlain(PlainDesk y, int call, int[] v) {
        switch (NAMES[call]) {
            case "cloth": return y.cloth(v[0], v[1]);
            case "at": return y.at(v[0], v[1], v[2]);
            case "isSelected": return y.isSelected(v[0], v[1]);
            case "about": return y.about(v[0]);
            case "used": return y.used(v[0]);
            case "floats": return y.floats(v[0], v[1], v[2]);
            case "run": return y.run(v[0], v[1], v[2], v[3], v[4], v[5]);
            case "handle": return y.handle(v[0]);
            case "bind": return y.bind(v[0], v[1], v[2]);
            case "same": return y.same(v[0], v[1]);
            case "call": return y.call(v[0], v[1], v[2], v[3], v[4], v[5]);
            case "macro": return y.macro(v[0], v[1], v[2], v[3]);
            case "part": return y.part(v[0], v[1], v[2], v[3], v[4], v[5]);
            case "nest": return y.nest(v[0], v[1]);
            case "times": return y.times(v[0], v[1]);
            case "play": return y.play(v[0]);
            case "outcome": return y.outcome(v[0]);
            case "node": return y.node();
            case "go": return y.go(v[0]);
            case "undo": return y.undo();
            case "redo": return y.redo();
            case "told": return y.told(v[0], v[1]);
            case "squeeze": return y.squeeze(v[0]);
            case "trace": return y.trace();
            default: return y.digest();
        }
    }

    /** The runs are worth something only if they come to every kind of answer. */
    private static void isSeenEnough() {
        String[] all = {"cloth -1", "at -1", "isSelected -1", "about -1", "used -1", "floats -1", "floats -9", "run -1",
            "run -3", "run -5", "handle -1", "handle -3", "bind -1", "bind -2", "bind -3", "same -1", "call -1", "call -3",
            "call -5", "macro -1", "macro -3", "part -1", "part -3", "nest -1", "nest -3", "times -1", "play -1",
            "play -3", "play -5", "outcome -1", "outcome -9", "go -1", "undo -2", "redo -2", "told -1", "told -9",
            "squeeze -1", "squeeze -2", "play fails of 1", "play fails of 2", "play fails of 3", "play fails of 4",
            "play fails of 5"};
        for (String answer : all) {
            T.isTrue("'" + answer + "' came", SEEN.getOrDefault(answer, 0) >= 5);
        }
        for (String name : NAMES) {
            T.isTrue("'" + name + " fine' came", SEEN.getOrDefault(name + " fine", 0) >= 5);
        }
        if (System.getProperty("tell") != null) {
            System.out.println(SEEN);
        }
    }
}
