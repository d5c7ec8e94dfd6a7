import java.util.ArrayDeque;
import java.util.ArrayList;
import java.util.Arrays;
import java.util.HashMap;
import java.util.List;
import java.util.Map;
import java.util.TreeMap;
import java.util.function.IntBinaryOperator;

/**
 * A second desk, written from the document on its own and with no thought of speed: states are
 * copied whole, failures are thrown, kinds of commands are classes over one another.
 */
final class PlainDesk {
    static final int BAD = -1, STATE = -2, FULL = -3, FAILED = -5, NONE = -9;

    static final class Failure extends Exception {
        private static final long serialVersionUID = 1;
        final int number;

        Failure(int number) {
            this.number = number;
        }
    }

    /** Wools by layer, row and column; what else a node has. */
    static final class State {
        int[][][] wool;
        boolean[][] chosen;
        int inUse = 0;
        boolean[] shown = {true, true, true};

        State(int rows, int columns) {
            wool = new int[3][rows][columns];
            chosen = new boolean[rows][columns];
            for (boolean[] row : chosen) {
                Arrays.fill(row, true);
            }
        }

        State copy() {
            State s = new State(rows(), columns());
            for (int r = 0; r < rows(); r++) {
                s.chosen[r] = chosen[r].clone();
                for (int l = 0; l < 3; l++) {
                    s.wool[l][r] = wool[l][r].clone();
                }
            }
            s.inUse = inUse;
            s.shown = shown.clone();
            return s;
        }

        int rows() {
            return chosen.length;
        }

        int columns() {
            return chosen[0].length;
        }

        boolean knot(long r, long c) {
            return 0 <= r && r < rows() && 0 <= c && c < columns();
        }

        int seen(int r, int c) {
            int seen = 0;
            for (int l = 0; l < 3; l++) {
                if (shown[l] && wool[l][r][c] > 0) {
                    seen = wool[l][r][c];
                }
            }
            return seen;
        }

        void paint(long r, long c, int w) {
            if (knot(r, c) && chosen[(int) r][(int) c]) {
                wool[inUse][(int) r][(int) c] = w;
            }
        }

        /** Every knot, row and column, by rows. */
        List<int[]> knots() {
            List<int[]> all = new ArrayList<>();
            for (int r = 0; r < rows(); r++) {
                for (int c = 0; c < columns(); c++) {
                    all.add(new int[] {r, c});
                }
            }
            return all;
        }

        int differs(State other) {
            int n = 0;
            for (int[] k : knots()) {
                boolean same = true;
                for (int l = 0; l < 3; l++) {
                    same &= wool[l][k[0]][k[1]] == other.wool[l][k[0]][k[1]];
                }
                n += same ? 0 : 1;
            }
            return n;
        }

        /** top, left, bottom, right; null of an empty selection. */
        int[] box() {
            int[] box = null;
            for (int[] k : knots()) {
                if (chosen[k[0]][k[1]]) {
                    box = box == null ? new int[] {k[0], k[1], k[0], k[1]} : new int[] {Math.min(box[0], k[0]),
                        Math.min(box[1], k[1]), Math.max(box[2], k[0]), Math.max(box[3], k[1])};
                }
            }
            return box;
        }
    }

    abstract static class Doing {
        int kind;
        int a, b, c, d, e;
        PlainDesk desk;
        State s;

        void ready() throws Failure {
            desk.trace += 1;
            require(bounds(), 4);
        }

        boolean bounds() {
            return true;
        }

        abstract void make();

        static void require(boolean holds, int failure) throws Failure {
            if (!holds) {
                throw new Failure(failure);
            }
        }

        static boolean in(int v, int low, int high) {
            return low <= v && v <= high;
        }
    }

    abstract static class Paint extends Doing {
        @Override void ready() throws Failure {
            desk.trace += 10;
            for (int w : wools()) {
                require(in(w, 0, 9), 2);
            }
            super.ready();
        }

        int[] wools() {
            return new int[] {e};
        }
    }

    abstract static class Point extends Paint {
        @Override void ready() throws Failure {
            desk.trace += 1000;
            require(s.knot(a, b), 1);
            super.ready();
        }
    }

    static final class Spot extends Point {
        @Override void make() {
            s.paint(a, b, e);
        }
    }

    static final class Fill extends Point {
        @Override void make() {
            int old = s.wool[s.inUse][a][b];
            boolean[][] reached = new boolean[s.rows()][s.columns()];
            ArrayDeque<int[]> open = new ArrayDeque<>();
            open.add(new int[] {a, b});
            while (!open.isEmpty()) {
                int[] k = open.poll();
                int r = k[0];
                int q = k[1];
                if (s.knot(r, q) && !reached[r][q] && s.chosen[r][q] && s.wool[s.inUse][r][q] == old) {
                    reached[r][q] = true;
                    open.add(new int[] {r + 1, q});
                    open.add(new int[] {r - 1, q});
                    open.add(new int[] {r, q + 1});
                    open.add(new int[] {r, q - 1});
                }
            }
            for (int[] k : s.knots()) {
                if (reached[k[0]][k[1]]) {
                    s.paint(k[0], k[1], e);
                }
            }
        }
    }

    static final class Line extends Point {
        @Override void ready() throws Failure {
            desk.trace += 100000;
            require(s.knot(c, d), 1);
            super.ready();
        }

        @Override void make() {
            int n = Math.max(Math.abs(c - a), Math.abs(d - b));
            for (int k = 0; k <= n; k++) {
                s.paint(on(a, c, k, n), on(b, d, k, n), e);
            }
        }

        private static long on(int from, int to, int k, int n) {
            return n == 0 ? from : from + (long) Math.floor((2.0 * k * (to - from) + n) / (2.0 * n));
        }
    }

    static final class Stamp extends Point {
        @Override boolean bounds() {
            return in(c, 0, 511) && in(d, 0, 7);
        }

        @Override void make() {
            boolean[][] form = new boolean[3][3];
            for (int i = 0; i < 3; i++) {
                for (int j = 0; j < 3; j++) {
                    form[i][j] = (c / (1 << 3 * i + j)) % 2 == 1;
                }
            }
            for (int t = 0; t < d % 4; t++) {
                boolean[][] next = new boolean[3][3];
                for (int i = 0; i < 3; i++) {
                    for (int j = 0; j < 3; j++) {
                        next[j][2 - i] = form[i][j];
                    }
                }
                form = next;
            }
            for (int i = 0; i < 3; i++) {
                for (int j = 0; j < 3; j++) {
                    if (form[i][d > 3 ? 2 - j : j]) {
                        s.paint(a - 1 + i, b - 1 + j, e);
                    }
                }
            }
        }
    }

    abstract static class Boxed extends Paint {
        int[] box;
        int[][] was;

        @Override void ready() throws Failure {
            desk.trace += 10000;
            require(s.box() != null, 3);
            super.ready();
        }

        @Override int[] wools() {
            return new int[0];
        }

        @Override void make() {
            box = s.box();
            was = s.copy().wool[s.inUse];
            for (int r = box[0]; r <= box[2]; r++) {
                for (int q = box[1]; q <= box[3]; q++) {
                    s.paint(r, q, becomes(r, q));
                }
            }
        }

        abstract int becomes(int r, int q);
    }

    static final class Mirror extends Boxed {
        @Override boolean bounds() {
            return in(a, 0, 1);
        }

        @Override int becomes(int r, int q) {
            return a == 0 ? was[r][box[3] - (q - box[1])] : was[box[2] - (r - box[0])][q];
        }
    }

    static final class Shift extends Boxed {
        @Override boolean bounds() {
            return in(a, -20, 20) && in(b, -20, 20);
        }

        @Override int becomes(int r, int q) {
            return was[round(r - a, box[0], box[2])][round(q - b, box[1], box[3])];
        }

        private static int round(int v, int first, int last) {
            int at = v;
            while (at < first) {
                at += last - first + 1;
            }
            while (at > last) {
                at -= last - first + 1;
            }
            return at;
        }
    }

    static final class Border extends Boxed {
        @Override int[] wools() {
            return new int[] {e};
        }

        @Override boolean bounds() {
            return in(a, 1, 5);
        }

        @Override int becomes(int r, int q) {
            int edge = Math.min(Math.min(r - box[0], box[2] - r), Math.min(q - box[1], box[3] - q));
            return edge < a ? e : was[r][q];
        }
    }

    static final class Swap extends Boxed {
        @Override int[] wools() {
            return new int[] {a, b};
        }

        @Override int becomes(int r, int q) {
            return was[r][q] == a ? b : was[r][q] == b ? a : was[r][q];
        }
    }

    static final class Mend extends Boxed {
        @Override boolean bounds() {
            return in(a, 1, 9);
        }

        @Override int becomes(int r, int q) {
            int w = was[r][q];
            boolean behind = w != 0 && q - a >= box[1];
            for (int k = 1; k <= a && behind; k++) {
                behind = s.wool[s.inUse][r][q - k] == w;
            }
            return !behind ? w : w == 9 ? 1 : w + 1;
        }
    }

    abstract static class Look extends Doing {
        @Override void ready() throws Failure {
            desk.trace += 100;
            look();
            super.ready();
        }

        abstract void look() throws Failure;
    }

    static final class Select extends Look {
        @Override void look() throws Failure {
            require(s.knot(a, b) && c >= 1 && d >= 1 && s.knot((long) a + c - 1, (long) b + d - 1), 1);
        }

        @Override boolean bounds() {
            return in(e, 0, 3);
        }

        @Override void make() {
            for (int[] k : s.knots()) {
                boolean these = in(k[0], a, a + c - 1) && in(k[1], b, b + d - 1);
                boolean was = s.chosen[k[0]][k[1]];
                boolean[] ways = {these, these | was, was & !these, these & was};
                s.chosen[k[0]][k[1]] = ways[e];
            }
        }
    }

    static final class Pick extends Look {
        @Override void look() throws Failure {
            require(in(a, 0, 9), 2);
        }

        @Override void make() {
            for (int[] k : s.knots()) {
                s.chosen[k[0]][k[1]] &= s.seen(k[0], k[1]) == a;
            }
        }
    }

    static final class Use extends Look {
        @Override void look() throws Failure {
            require(in(a, 0, 2), 1);
        }

        @Override void make() {
            s.inUse = a;
        }
    }

    static final class Show extends Look {
        @Override void look() throws Failure {
            require(in(a, 0, 2), 1);
        }

        @Override boolean bounds() {
            return in(b, 0, 1);
        }

        @Override void make() {
            s.shown[a] = b == 1;
        }
    }

    static Doing commandOf(int kind) {
        switch (kind) {
            case 0: return new Spot();
            case 1: return new Fill();
            case 2: return new Line();
            case 3: return new Stamp();
            case 4: return new Mirror();
            case 5: return new Shift();
            case 6: return new Border();
            case 7: return new Swap();
            case 8: return new Mend();
            case 9: return new Select();
            case 10: return new Pick();
            case 11: return new Use();
            case 12: return new Show();
            default: return null;
        }
    }

    /** A handle: its kind, and what is bound by number. */
    static final class Bound {
        int kind;
        Map<Integer, Integer> numbers = new HashMap<>();
    }

    /** A macro's part is an Object[]: a Bound and an int[4], or an Integer, a macro's number. */
    static final class Joined {
        int kind, n, m, w;
        List<Object[]> parts = new ArrayList<>();
    }

    private State s = new State(8, 8);
    private final TreeMap<Integer, State> states = new TreeMap<>();
    private final TreeMap<Integer, Integer> parents = new TreeMap<>();
    private int hand = 0;
    private int ever = 1;
    private final List<Bound> handles = new ArrayList<>();
    private final List<Joined> macros = new ArrayList<>();
    private int[] outcome = {0, 0, 0, NONE, 0};
    private long trace = 0;
    private int partsCalled;

    PlainDesk() {
        cloth(8, 8);
    }

    int cloth(int rows, int columns) {
        if (rows < 1 || rows > 10 || columns < 1 || columns > 10) {
            return BAD;
        }
        s = new State(rows, columns);
        states.clear();
        parents.clear();
        states.put(0, s.copy());
        parents.put(0, NONE);
        hand = 0;
        ever = 1;
        return 1;
    }

    int at(int r, int c, int layer) {
        if (!s.knot(r, c) || layer < -1 || layer > 2) {
            return BAD;
        }
        return layer < 0 ? s.seen(r, c) : s.wool[layer][r][c];
    }

    int isSelected(int r, int c) {
        return !s.knot(r, c) ? BAD : s.chosen[r][c] ? 1 : 0;
    }

    int about(int what) {
        int chosen = 0;
        for (int[] k : s.knots()) {
            chosen += s.chosen[k[0]][k[1]] ? 1 : 0;
        }
        int[] all = {s.rows(), s.columns(), s.inUse, shownBits(s), chosen, handles.size(), macros.size(),
            states.size(), ever};
        return what < 0 || what >= all.length ? BAD : all[what];
    }

    private static int shownBits(State s) {
        return (s.shown[0] ? 1 : 0) + (s.shown[1] ? 2 : 0) + (s.shown[2] ? 4 : 0);
    }

    int used(int wool) {
        if (wool < 0 || wool > 9) {
            return BAD;
        }
        int n = 0;
        for (int[] k : s.knots()) {
            n += s.seen(k[0], k[1]) == wool ? 1 : 0;
        }
        return n;
    }

    int floats(int n, int i, int what) {
        if (n < 0 || what < 0 || what > 3) {
            return BAD;
        }
        List<int[]> found = new ArrayList<>();
        for (int r = 0; r < s.rows(); r++) {
            int c = 0;
            while (c < s.columns()) {
                int first = c;
                while (c < s.columns() && s.seen(r, c) == s.seen(r, first)) {
                    c++;
                }
                if (s.seen(r, first) != 0 && c - first > n) {
                    found.add(new int[] {r, first, c - first, s.seen(r, first)});
                }
            }
        }
        return i < 0 || i >= found.size() ? NONE : found.get(i)[what];
    }

    interface Work {
        void go() throws Failure;
    }

    private int attempt(Work work) {
        if (ever >= 60) {
            return FULL;
        }
        State ahead = s.copy();
        outcome = new int[] {0, 0, 0, NONE, 0};
        partsCalled = 0;
        try {
            work.go();
        } catch (Failure failure) {
            outcome[0] = failure.number;
            s = ahead;
            return FAILED;
        }
        outcome[1] = s.differs(ahead);
        states.put(ever, s.copy());
        parents.put(ever, hand);
        hand = ever;
        return ever++;
    }

    private void perform(int kind, int[] v, int depth) throws Failure {
        Doing command = commandOf(kind);
        command.a = v[0];
        command.b = v[1];
        command.c = v[2];
        command.d = v[3];
        command.e = v[4];
        command.desk = this;
        command.s = s;
        outcome[2]++;
        outcome[3] = kind;
        outcome[4] = depth;
        command.ready();
        command.make();
        outcome[3] = NONE;
        outcome[4] = 0;
    }

    int run(int kind, int a, int b, int c, int d, int e) {
        return commandOf(kind) == null ? BAD : attempt(() -> perform(kind, new int[] {a, b, c, d, e}, 0));
    }

    int handle(int kind) {
        if (commandOf(kind) == null) {
            return BAD;
        }
        Bound bound = new Bound();
        bound.kind = kind;
        return add(bound);
    }

    private int add(Bound bound) {
        if (handles.size() == 40) {
            return FULL;
        }
        handles.add(bound);
        return handles.size() - 1;
    }

    private boolean isHandle(int h) {
        return 0 <= h && h < handles.size();
    }

    private boolean isMacro(int m) {
        return 0 <= m && m < macros.size();
    }

    int bind(int handle, int i, int v) {
        if (!isHandle(handle) || i < 0 || i > 4) {
            return BAD;
        }
        Bound old = handles.get(handle);
        if (old.numbers.containsKey(i)) {
            return STATE;
        }
        Bound bound = new Bound();
        bound.kind = old.kind;
        bound.numbers.putAll(old.numbers);
        bound.numbers.put(i, v);
        return add(bound);
    }

    int same(int handle, int other) {
        if (!isHandle(handle) || !isHandle(other)) {
            return BAD;
        }
        Bound x = handles.get(handle);
        Bound y = handles.get(other);
        return x.kind == y.kind && x.numbers.equals(y.numbers) ? 1 : 0;
    }

    private static int[] numbersOf(Bound bound, int[] given) {
        ArrayDeque<Integer> left = new ArrayDeque<>();
        for (int v : given) {
            left.add(v);
        }
        int[] all = new int[5];
        for (int i = 0; i < 5; i++) {
            Integer v = bound.numbers.containsKey(i) ? bound.numbers.get(i) : left.poll();
            all[i] = v == null ? 0 : v;
        }
        return all;
    }

    int call(int handle, int a, int b, int c, int d, int e) {
        if (!isHandle(handle)) {
            return BAD;
        }
        Bound bound = handles.get(handle);
        return attempt(() -> perform(bound.kind, numbersOf(bound, new int[] {a, b, c, d, e}), 0));
    }

    int macro(int kind, int n, int m, int w) {
        boolean digit = 0 <= n && n <= 9;
        boolean digits = digit && 0 <= m && m <= 9 && 0 <= w && w <= 9;
        if (kind < 0 || kind > 3 || kind == 1 && !digit || kind == 2 && !digits) {
            return BAD;
        }
        if (macros.size() == 20) {
            return FULL;
        }
        Joined joined = new Joined();
        joined.kind = kind;
        joined.n = n;
        joined.m = m;
        joined.w = w;
        macros.add(joined);
        return macros.size() - 1;
    }

    private int join(int macro, Object... part) {
        List<Object[]> parts = macros.get(macro).parts;
        if (parts.size() == 8) {
            return FULL;
        }
        parts.add(part);
        return parts.size();
    }

    int part(int macro, int handle, int a, int b, int c, int d) {
        return !isMacro(macro) || !isHandle(handle) ? BAD
                : join(macro, handles.get(handle), new int[] {a, b, c, d});
    }

    int nest(int macro, int other) {
        return !isMacro(macro) || !isMacro(other) || other >= macro ? BAD : join(macro, Integer.valueOf(other));
    }

    int times(int macro, int n) {
        if (!isMacro(macro) || macros.get(macro).kind != 1 || n < 0 || n > 9) {
            return BAD;
        }
        int was = macros.get(macro).n;
        macros.get(macro).n = n;
        return was;
    }

    int play(int macro) {
        return !isMacro(macro) ? BAD : attempt(() -> callMacro(macro, 1));
    }

    private void callMacro(int macro, int depth) throws Failure {
        Joined joined = macros.get(macro);
        if (joined.kind == 0) {
            callParts(joined, depth);
        } else if (joined.kind == 1) {
            for (int i = 0; i < joined.n; i++) {
                callParts(joined, depth);
            }
        } else if (joined.kind == 2) {
            if (s.knot(joined.n, joined.m) && s.seen(joined.n, joined.m) == joined.w) {
                callParts(joined, depth);
            }
        } else {
            int was = s.inUse;
            for (int layer = 0; layer < 3; layer++) {
                s.inUse = layer;
                callParts(joined, depth);
            }
            s.inUse = was;
        }
    }

    private void callParts(Joined joined, int depth) throws Failure {
        for (Object[] part : joined.parts) {
            partsCalled++;
            if (partsCalled == 301) {
                outcome[4] = depth;
                throw new Failure(5);
            }
            if (part.length == 1) {
                callMacro((Integer) part[0], depth + 1);
            } else {
                Bound bound = (Bound) part[0];
                perform(bound.kind, numbersOf(bound, (int[]) part[1]), depth);
            }
        }
    }

    int outcome(int what) {
        return what < 0 || what > 4 ? BAD : outcome[what];
    }

    int node() {
        return hand;
    }

    private List<Integer> pathOf(int node) {
        List<Integer> path = new ArrayList<>();
        for (int n = node; n != NONE; n = parents.get(n)) {
            path.add(0, n);
        }
        return path;
    }

    private List<Integer> under(int node) {
        List<Integer> found = new ArrayList<>();
        parents.forEach((child, parent) -> {
            if (parent == node) {
                found.add(child);
            }
        });
        return found;
    }

    int go(int node) {
        if (!states.containsKey(node)) {
            return BAD;
        }
        List<Integer> from = pathOf(hand);
        List<Integer> to = pathOf(node);
        int shared = 0;
        while (shared < from.size() && shared < to.size() && from.get(shared).equals(to.get(shared))) {
            shared++;
        }
        s = states.get(node).copy();
        hand = node;
        return from.size() + to.size() - 2 * shared;
    }

    int undo() {
        int above = parents.get(hand);
        if (above == NONE) {
            return STATE;
        }
        go(above);
        return above;
    }

    int redo() {
        int below = highest(hand);
        if (below == NONE) {
            return STATE;
        }
        go(below);
        return below;
    }

    private int highest(int node) {
        IntBinaryOperator max = Math::max;
        return under(node).stream().mapToInt(Integer::intValue).reduce(NONE, max);
    }

    int told(int node, int what) {
        if (!states.containsKey(node) || what < 0 || what > 4) {
            return BAD;
        }
        int parent = parents.get(node);
        int changed = parent == NONE ? 0 : states.get(node).differs(states.get(parent));
        return new int[] {parent, under(node).size(), highest(node), changed, pathOf(node).size() - 1}[what];
    }

    int squeeze(int node) {
        if (!states.containsKey(node)) {
            return BAD;
        }
        if (node == hand || node == 0 || under(node).size() != 1) {
            return STATE;
        }
        int below = under(node).get(0);
        parents.put(below, parents.get(node));
        parents.remove(node);
        states.remove(node);
        return below;
    }

    long trace() {
        return trace;
    }

    long digest() {
        long h = 7;
        for (int[] k : s.knots()) {
            for (int l = 0; l < 3; l++) {
                h = 31 * h + s.wool[l][k[0]][k[1]];
            }
            h = 31 * h + (s.chosen[k[0]][k[1]] ? 1 : 0);
        }
        h = 31 * h + s.inUse;
        return 31 * h + shownBits(s);
    }
}
