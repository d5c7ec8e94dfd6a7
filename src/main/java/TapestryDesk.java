/**
 * A desk for tapestries: knots in layers, commands, handles and macros over them, and a tree of
 * what was done. The promises it keeps are numbered in the project's document.
 */
public final class TapestryDesk {
    public static final int BAD = -1, STATE = -2, FULL = -3, FAILED = -5, NONE = -9;

    private static final int MOST_SIDE = 10, MOST_KNOTS = 100, LAYERS = 3, MOST_WOOL = 9;
    private static final int MOST_HANDLES = 40, MOST_MACROS = 20, MOST_PARTS = 8;
    private static final int MOST_CALLED = 300, MOST_NODES = 60, NUMBERS = 5;

    private static final int SPOT = 0, FILL = 1, LINE = 2, STAMP = 3, MIRROR = 4, SHIFT = 5,
            BORDER = 6, SWAP = 7, MEND = 8, SELECT = 9, PICK = 10, USE = 11, SHOW = 12, KINDS = 13;
    private static final int NO_FAILURE = 0, OUTSIDE = 1, WOOL = 2, EMPTY = 3, NUMBER = 4, LONG = 5;
    private static final int IN_TURN = 0, REPEAT = 1, IF = 2, EACH = 3;

    private final Cloth now = new Cloth();
    private final Tree tree = new Tree();
    private final Runner runner = new Runner(now);
    private final Command command = new Command();
    private final Handle[] handles = new Handle[MOST_HANDLES];
    private final Macro[] macros = new Macro[MOST_MACROS];
    private int handleCount = 0;
    private int macroCount = 0;

    public TapestryDesk() {
        now.weave(8, 8);
        tree.plant(now);
    }

    // ---- the cloth

    public int cloth(int rows, int columns) {
        if (!within(rows, 1, MOST_SIDE) || !within(columns, 1, MOST_SIDE)) {
            return BAD;
        }
        now.weave(rows, columns);
        tree.plant(now);
        return 1;
    }

    public int at(int r, int c, int layer) {
        if (!now.isKnot(r, c) || !within(layer, -1, LAYERS - 1)) {
            return BAD;
        }
        return layer == -1 ? now.seenAt(r, c) : now.woolAt(r, c, layer);
    }

    public int isSelected(int r, int c) {
        if (!now.isKnot(r, c)) {
            return BAD;
        }
        return now.isChosen(r, c) ? 1 : 0;
    }

    public int about(int what) {
        switch (what) {
            case 0: return now.rows;
            case 1: return now.columns;
            case 2: return now.inUse;
            case 3: return now.shown;
            case 4: return now.chosenCount();
            case 5: return handleCount;
            case 6: return macroCount;
            case 7: return tree.thereCount();
            case 8: return tree.ever;
            default: return BAD;
        }
    }

    public int used(int wool) {
        return isWool(wool) ? now.seenCount(wool) : BAD;
    }

    public int floats(int n, int i, int what) {
        if (n < 0 || !within(what, 0, 3)) {
            return BAD;
        }
        return now.findFloat(n, i, what);
    }

    // ---- commands

    public int run(int kind, int a, int b, int c, int d, int e) {
        if (!within(kind, 0, KINDS - 1)) {
            return BAD;
        }
        if (tree.isFull()) {
            return FULL;
        }
        int[] given = {a, b, c, d, e};
        command.fillIn(kind, given);
        runner.begin();
        runner.perform(command, 0);
        return settle();
    }

    public int handle(int kind) {
        if (!within(kind, 0, KINDS - 1)) {
            return BAD;
        }
        if (handleCount >= handles.length) {
            return FULL;
        }
        return keepHandle(new Handle(kind));
    }

    public int bind(int handle, int i, int v) {
        Handle bare = handleOf(handle);
        if (bare == null || !within(i, 0, NUMBERS - 1)) {
            return BAD;
        }
        if (bare.isBound(i)) {
            return STATE;
        }
        if (handleCount >= handles.length) {
            return FULL;
        }
        return keepHandle(bare.withBound(i, v));
    }

    public int same(int handle, int other) {
        Handle one = handleOf(handle);
        Handle two = handleOf(other);
        if (one == null || two == null) {
            return BAD;
        }
        return one.isLike(two) ? 1 : 0;
    }

    public int call(int handle, int a, int b, int c, int d, int e) {
        Handle called = handleOf(handle);
        if (called == null) {
            return BAD;
        }
        if (tree.isFull()) {
            return FULL;
        }
        int[] given = {a, b, c, d, e};
        called.fillIn(command, given);
        runner.begin();
        runner.perform(command, 0);
        return settle();
    }

    // ---- macros

    public int macro(int kind, int n, int m, int w) {
        boolean fits;
        switch (kind) {
            case IN_TURN: case EACH:
                fits = true;
                break;
            case REPEAT:
                fits = within(n, 0, 9);
                break;
            case IF:
                fits = within(n, 0, 9) && within(m, 0, 9) && within(w, 0, 9);
                break;
            default:
                fits = false;
                break;
        }
        if (!fits) {
            return BAD;
        }
        if (macroCount >= macros.length) {
            return FULL;
        }
        macros[macroCount] = new Macro(kind, n, m, w);
        macroCount++;
        return macroCount - 1;
    }

    public int part(int macro, int handle, int a, int b, int c, int d) {
        Macro whole = macroOf(macro);
        Handle called = handleOf(handle);
        if (whole == null || called == null) {
            return BAD;
        }
        if (whole.isFull()) {
            return FULL;
        }
        int[] given = {a, b, c, d};
        return whole.join(new Part(called, null, given));
    }

    public int nest(int macro, int other) {
        Macro whole = macroOf(macro);
        Macro inner = macroOf(other);
        if (whole == null || inner == null || other >= macro) {
            return BAD;
        }
        if (whole.isFull()) {
            return FULL;
        }
        return whole.join(new Part(null, inner, null));
    }

    public int times(int macro, int n) {
        Macro repeat = macroOf(macro);
        if (repeat == null || repeat.kind != REPEAT || !within(n, 0, 9)) {
            return BAD;
        }
        int was = repeat.n;
        repeat.n = n;
        return was;
    }

    public int play(int macro) {
        Macro played = macroOf(macro);
        if (played == null) {
            return BAD;
        }
        if (tree.isFull()) {
            return FULL;
        }
        runner.begin();
        runner.callMacro(played, 1);
        return settle();
    }

    public int outcome(int what) {
        switch (what) {
            case 0: return runner.failure;
            case 1: return runner.changed;
            case 2: return runner.commandsDone;
            case 3: return runner.failedKind;
            case 4: return runner.failedDepth;
            default: return BAD;
        }
    }

    // ---- what was done

    public int node() {
        return tree.atHand;
    }

    public int go(int node) {
        if (!tree.has(node)) {
            return BAD;
        }
        int steps = tree.stepsBetween(tree.atHand, node);
        moveTo(node);
        return steps;
    }

    public int undo() {
        int above = tree.parentOf(tree.atHand);
        return above == NONE ? STATE : moveTo(above);
    }

    public int redo() {
        int below = tree.highestUnder(tree.atHand);
        return below == NONE ? STATE : moveTo(below);
    }

    public int told(int node, int what) {
        if (!tree.has(node)) {
            return BAD;
        }
        switch (what) {
            case 0: return tree.parentOf(node);
            case 1: return tree.countUnder(node);
            case 2: return tree.highestUnder(node);
            case 3: return tree.changedIn(node);
            case 4: return tree.stepsBetween(node, 0);
            default: return BAD;
        }
    }

    public int squeeze(int node) {
        if (!tree.has(node)) {
            return BAD;
        }
        if (node == 0 || node == tree.atHand || tree.countUnder(node) != 1) {
            return STATE;
        }
        return tree.takeOut(node);
    }

    public long trace() {
        return runner.readiness.sum;
    }

    public long digest() {
        return now.fingerprint();
    }

    // ---- help for the calls above

    private static boolean within(int v, int least, int most) {
        return v >= least && v <= most;
    }

    private static boolean isWool(int v) {
        return v >= 0 && v <= MOST_WOOL;
    }

    private Handle handleOf(int number) {
        return number >= 0 && number < handleCount && number < handles.length ? handles[number] : null;
    }

    private Macro macroOf(int number) {
        return number >= 0 && number < macroCount && number < macros.length ? macros[number] : null;
    }

    private int keepHandle(Handle added) {
        int number = handleCount;
        if (number < handles.length) {
            handles[number] = added;
            handleCount++;
        }
        return number;
    }

    /** Ends a run, call or play: a new node, or, behind a failure, all as the node at hand has it. */
    private int settle() {
        Cloth ahead = tree.clothOf(tree.atHand);
        if (ahead == null) {
            return FAILED;
        }
        if (runner.failure != NO_FAILURE) {
            now.copyFrom(ahead);
            return FAILED;
        }
        runner.changed = now.changedFrom(ahead);
        return tree.grow(now);
    }

    private int moveTo(int node) {
        Cloth held = tree.clothOf(node);
        if (held != null) {
            now.copyFrom(held);
            tree.atHand = node;
        }
        return node;
    }

    /** The cloth: wools in layers, the selection, what is in use and what is shown. */
    private static final class Cloth {
        /** Each knot has a cell for each layer, and one for whether it is in the selection. */
        private static final int CELLS = 4, CHOSEN = 3;

        int rows = 1;
        int columns = 1;
        int inUse = 0;
        int shown = 0;
        private final int[] cells = new int[MOST_KNOTS * CELLS];

        /** Makes all as at first; rows and columns are 1 .. 10. */
        void weave(int newRows, int newColumns) {
            rows = newRows;
            columns = newColumns;
            inUse = 0;
            shown = (1 << LAYERS) - 1;
            for (int i = 0; i < cells.length; i++) {
                cells[i] = i % CELLS == CHOSEN ? 1 : 0;
            }
        }

        void copyFrom(Cloth other) {
            rows = other.rows;
            columns = other.columns;
            inUse = other.inUse;
            shown = other.shown;
            System.arraycopy(other.cells, 0, cells, 0, cells.length);
        }

        boolean isKnot(int r, int c) {
            return r >= 0 && r < rows && c >= 0 && c < columns;
        }

        int woolAt(int r, int c, int layer) {
            if (!isKnot(r, c) || layer < 0 || layer >= LAYERS) {
                return 0;
            }
            return cells[(r * MOST_SIDE + c) * CELLS + layer];
        }

        int seenAt(int r, int c) {
            if (!isKnot(r, c)) {
                return 0;
            }
            for (int layer = LAYERS - 1; layer >= 0; layer--) {
                int wool = cells[(r * MOST_SIDE + c) * CELLS + layer];
                if (wool != 0 && (shown >> layer & 1) == 1) {
                    return wool;
                }
            }
            return 0;
        }

        boolean isChosen(int r, int c) {
            return isKnot(r, c) && cells[(r * MOST_SIDE + c) * CELLS + CHOSEN] == 1;
        }

        void choose(int r, int c, boolean chosen) {
            if (isKnot(r, c)) {
                cells[(r * MOST_SIDE + c) * CELLS + CHOSEN] = chosen ? 1 : 0;
            }
        }

        /** Paints a knot of the layer in use, if there is one and it is in the selection. */
        void paint(int r, int c, int wool) {
            if (!isKnot(r, c) || inUse < 0 || inUse >= LAYERS) {
                return;
            }
            int first = (r * MOST_SIDE + c) * CELLS;
            if (cells[first + CHOSEN] == 1) {
                cells[first + inUse] = wool;
            }
        }

        int chosenCount() {
            int count = 0;
            for (int r = 0; r < rows; r++) {
                for (int c = 0; c < columns; c++) {
                    count += cells[(r * MOST_SIDE + c) * CELLS + CHOSEN];
                }
            }
            return count;
        }

        int seenCount(int wool) {
            int count = 0;
            for (int r = 0; r < rows; r++) {
                for (int c = 0; c < columns; c++) {
                    if (seenAt(r, c) == wool) {
                        count++;
                    }
                }
            }
            return count;
        }

        int changedFrom(Cloth other) {
            int count = 0;
            for (int r = 0; r < rows; r++) {
                for (int c = 0; c < columns; c++) {
                    if (!hasWoolsOf(other, r, c)) {
                        count++;
                    }
                }
            }
            return count;
        }

        private boolean hasWoolsOf(Cloth other, int r, int c) {
            for (int layer = 0; layer < LAYERS; layer++) {
                if (woolAt(r, c, layer) != other.woolAt(r, c, layer)) {
                    return false;
                }
            }
            return true;
        }

        /** Tells of the i-th float that is longer than n; NONE, if there are not so many. */
        int findFloat(int n, int i, int what) {
            int passed = 0;
            for (int r = 0; r < rows; r++) {
                for (int c = 0; c < columns; c++) {
                    int length = floatFrom(r, c);
                    if (length > n) {
                        if (passed == i) {
                            return tellFloat(r, c, length, what);
                        }
                        passed++;
                    }
                }
            }
            return NONE;
        }

        /** How long the float is whose first knot this is; 0, if it is no float's first. */
        private int floatFrom(int r, int c) {
            int wool = seenAt(r, c);
            if (wool == 0 || seenAt(r, c - 1) == wool) {
                return 0;
            }
            int end = c + 1;
            while (end < columns && seenAt(r, end) == wool) {
                end++;
            }
            return end - c;
        }

        private int tellFloat(int r, int c, int length, int what) {
            switch (what) {
                case 0: return r;
                case 1: return c;
                case 2: return length;
                default: return seenAt(r, c);
            }
        }

        long fingerprint() {
            long h = 7;
            for (int r = 0; r < rows; r++) {
                for (int c = 0; c < columns; c++) {
                    for (int layer = 0; layer < LAYERS; layer++) {
                        h = 31 * h + woolAt(r, c, layer);
                    }
                    h = 31 * h + (isChosen(r, c) ? 1 : 0);
                }
            }
            h = 31 * h + inUse;
            return 31 * h + shown;
        }
    }

    /** A command of a kind with its numbers. */
    private static final class Command {
        int kind, a, b, c, d, e;

        void fillIn(int newKind, int[] numbers) {
            kind = newKind;
            for (int i = 0; i < NUMBERS; i++) {
                put(i, i < numbers.length ? numbers[i] : 0);
            }
        }

        void put(int i, int v) {
            switch (i) {
                case 0: a = v; break;
                case 1: b = v; break;
                case 2: c = v; break;
                case 3: d = v; break;
                default: e = v; break;
            }
        }
    }

    /** Asks commands whether they are ready, from what they are up to what stands over all. */
    private static final class Readiness {
        private static final int AS_LINE = 0, AS_POINT = 1, AS_BOXED = 2, AS_PAINT = 3, AS_LOOK = 4,
                AS_DOING = 5, LEVELS = 6;
        private static final int[] FIRST = {
            AS_POINT, AS_POINT, AS_LINE, AS_POINT,
            AS_BOXED, AS_BOXED, AS_BOXED, AS_BOXED, AS_BOXED,
            AS_LOOK, AS_LOOK, AS_LOOK, AS_LOOK
        };
        private static final int[] OVER = {AS_POINT, AS_PAINT, AS_PAINT, AS_DOING, AS_DOING, LEVELS};
        private static final int[] IN_BRACKETS = {100000, 1000, 10000, 10, 100, 1};

        long sum = 0;

        int ask(Command command, Cloth cloth) {
            int level = within(command.kind, 0, FIRST.length - 1) ? FIRST[command.kind] : LEVELS;
            int failure = NO_FAILURE;
            for (int steps = 0; steps < LEVELS && level < LEVELS && failure == NO_FAILURE; steps++) {
                sum += IN_BRACKETS[level];
                failure = failureAt(level, command, cloth);
                level = OVER[level];
            }
            return failure;
        }

        private int failureAt(int level, Command command, Cloth cloth) {
            switch (level) {
                case AS_LINE: return cloth.isKnot(command.c, command.d) ? NO_FAILURE : OUTSIDE;
                case AS_POINT: return cloth.isKnot(command.a, command.b) ? NO_FAILURE : OUTSIDE;
                case AS_BOXED: return cloth.chosenCount() > 0 ? NO_FAILURE : EMPTY;
                case AS_PAINT: return hasFitWools(command) ? NO_FAILURE : WOOL;
                case AS_LOOK: return failureAsLook(command, cloth);
                default: return hasFitNumbers(command) ? NO_FAILURE : NUMBER;
            }
        }

        private boolean hasFitWools(Command command) {
            switch (command.kind) {
                case SPOT: case FILL: case LINE: case STAMP: case BORDER:
                    return isWool(command.e);
                case SWAP:
                    return isWool(command.a) && isWool(command.b);
                default:
                    return true;
            }
        }

        private int failureAsLook(Command command, Cloth cloth) {
            switch (command.kind) {
                case SELECT: return hasItsBlock(command, cloth) ? NO_FAILURE : OUTSIDE;
                case PICK: return isWool(command.a) ? NO_FAILURE : WOOL;
                default: return within(command.a, 0, LAYERS - 1) ? NO_FAILURE : OUTSIDE;
            }
        }

        /** Whether all that is to be selected lies on the cloth; compared so that no sum runs over. */
        private boolean hasItsBlock(Command command, Cloth cloth) {
            return command.a >= 0 && command.b >= 0 && command.c >= 1 && command.d >= 1
                    && command.c <= cloth.rows - command.a && command.d <= cloth.columns - command.b;
        }

        private boolean hasFitNumbers(Command command) {
            switch (command.kind) {
                case STAMP: return within(command.c, 0, 511) && within(command.d, 0, 7);
                case MIRROR: return within(command.a, 0, 1);
                case SHIFT: return within(command.a, -20, 20) && within(command.b, -20, 20);
                case BORDER: return within(command.a, 1, 5);
                case MEND: return within(command.a, 1, 9);
                case SELECT: return within(command.e, 0, 3);
                case SHOW: return within(command.b, 0, 1);
                default: return true;
            }
        }
    }

    /** Does the commands that paint, on the layer in use. */
    private static final class Painter {
        private static final int[] ROW_STEPS = {-1, 0, 0, 1};
        private static final int[] COLUMN_STEPS = {0, -1, 1, 0};

        private final Cloth cloth;
        private final int[] before = new int[MOST_KNOTS];
        private final int[] reached = new int[MOST_KNOTS];
        private int top, left, bottom, right;

        Painter(Cloth painted) {
            cloth = painted;
        }

        void carryOut(Command command) {
            if (command.kind >= MIRROR) {
                measureBox();
                keepBefore();
            }
            switch (command.kind) {
                case SPOT: cloth.paint(command.a, command.b, command.e); break;
                case FILL: fill(command.a, command.b, command.e); break;
                case LINE: line(command); break;
                case STAMP: stamp(command); break;
                case MIRROR: mirror(command.a); break;
                case SHIFT: shift(command.a, command.b); break;
                case BORDER: border(command.a, command.e); break;
                case SWAP: swap(command.a, command.b); break;
                case MEND: mend(command.a); break;
                default: break;
            }
        }

        private void fill(int row, int column, int wool) {
            int old = cloth.woolAt(row, column, cloth.inUse);
            if (old == wool || !cloth.isChosen(row, column)) {
                return;
            }
            // A knot is painted as it is reached, so none is reached twice.
            cloth.paint(row, column, wool);
            reached[0] = row * MOST_SIDE + column;
            int count = 1;
            for (int next = 0; next < count && next < reached.length; next++) {
                for (int side = 0; side < ROW_STEPS.length; side++) {
                    int r = reached[next] / MOST_SIDE + ROW_STEPS[side];
                    int c = reached[next] % MOST_SIDE + COLUMN_STEPS[side];
                    boolean spreads = cloth.isChosen(r, c) && cloth.woolAt(r, c, cloth.inUse) == old;
                    if (spreads && count < reached.length) {
                        cloth.paint(r, c, wool);
                        reached[count] = r * MOST_SIDE + c;
                        count++;
                    }
                }
            }
        }

        private void line(Command command) {
            int down = command.c - command.a;
            int across = command.d - command.b;
            int n = Math.max(Math.abs(down), Math.abs(across));
            if (n == 0) {
                cloth.paint(command.a, command.b, command.e);
                return;
            }
            // Both ends are knots, so n is below 10.
            for (int k = 0; k <= n && k < MOST_SIDE; k++) {
                int r = command.a + Math.floorDiv(2 * k * down + n, 2 * n);
                int c = command.b + Math.floorDiv(2 * k * across + n, 2 * n);
                cloth.paint(r, c, command.e);
            }
        }

        private void stamp(Command command) {
            for (int bit = 0; bit < 9; bit++) {
                int i = bit / 3;
                int j = bit % 3;
                for (int turn = 0; turn < (command.d & 3); turn++) {
                    int was = i;
                    i = j;
                    j = 2 - was;
                }
                if (command.d >= 4) {
                    j = 2 - j;
                }
                if ((command.c >> bit & 1) == 1) {
                    cloth.paint(command.a - 1 + i, command.b - 1 + j, command.e);
                }
            }
        }

        /** The box of the selection; of an empty one it has no rows and no columns. */
        private void measureBox() {
            top = MOST_SIDE;
            left = MOST_SIDE;
            bottom = -1;
            right = -1;
            for (int r = 0; r < cloth.rows; r++) {
                for (int c = 0; c < cloth.columns; c++) {
                    if (cloth.isChosen(r, c)) {
                        top = Math.min(top, r);
                        left = Math.min(left, c);
                        bottom = Math.max(bottom, r);
                        right = Math.max(right, c);
                    }
                }
            }
        }

        private void keepBefore() {
            for (int i = 0; i < before.length; i++) {
                before[i] = cloth.woolAt(i / MOST_SIDE, i % MOST_SIDE, cloth.inUse);
            }
        }

        private int woolBefore(int r, int c) {
            int i = r * MOST_SIDE + c;
            return i >= 0 && i < before.length ? before[i] : 0;
        }

        private void mirror(int a) {
            for (int r = top; r <= bottom; r++) {
                for (int c = left; c <= right; c++) {
                    int fromRow = a == 1 ? top + bottom - r : r;
                    int fromColumn = a == 0 ? left + right - c : c;
                    cloth.paint(r, c, woolBefore(fromRow, fromColumn));
                }
            }
        }

        private void shift(int down, int across) {
            int height = bottom - top + 1;
            int width = right - left + 1;
            if (height < 1 || width < 1) {
                return;
            }
            for (int r = top; r <= bottom; r++) {
                for (int c = left; c <= right; c++) {
                    int fromRow = top + Math.floorMod(r - top - down, height);
                    int fromColumn = left + Math.floorMod(c - left - across, width);
                    cloth.paint(r, c, woolBefore(fromRow, fromColumn));
                }
            }
        }

        private void border(int a, int wool) {
            for (int r = top; r <= bottom; r++) {
                for (int c = left; c <= right; c++) {
                    boolean inRows = r < top + a || r > bottom - a;
                    boolean inColumns = c < left + a || c > right - a;
                    if (inRows || inColumns) {
                        cloth.paint(r, c, wool);
                    }
                }
            }
        }

        private void swap(int a, int b) {
            for (int r = top; r <= bottom; r++) {
                for (int c = left; c <= right; c++) {
                    int wool = woolBefore(r, c);
                    if (wool == a) {
                        cloth.paint(r, c, b);
                    } else if (wool == b) {
                        cloth.paint(r, c, a);
                    }
                }
            }
        }

        private void mend(int a) {
            for (int r = top; r <= bottom; r++) {
                int last = 0;
                int length = 0;
                for (int c = left; c <= right; c++) {
                    int wool = cloth.woolAt(r, c, cloth.inUse);
                    if (wool != 0 && wool == last && length >= a) {
                        cloth.paint(r, c, wool % MOST_WOOL + 1);
                    }
                    // Looked at again: a knot outside the selection keeps its wool.
                    wool = cloth.woolAt(r, c, cloth.inUse);
                    length = wool == last ? length + 1 : 1;
                    last = wool;
                }
            }
        }
    }

    /** Does the commands that paint nothing: the selection, what is in use and what is shown. */
    private static final class Looker {
        private final Cloth cloth;

        Looker(Cloth lookedAt) {
            cloth = lookedAt;
        }

        void carryOut(Command command) {
            switch (command.kind) {
                case SELECT: select(command); break;
                case PICK: pick(command.a); break;
                case USE: cloth.inUse = command.a; break;
                case SHOW: show(command.a, command.b); break;
                default: break;
            }
        }

        private void select(Command command) {
            for (int r = 0; r < cloth.rows; r++) {
                for (int c = 0; c < cloth.columns; c++) {
                    boolean isThis = r >= command.a && r - command.a < command.c
                            && c >= command.b && c - command.b < command.d;
                    cloth.choose(r, c, isKept(command.e, isThis, cloth.isChosen(r, c)));
                }
            }
        }

        private boolean isKept(int way, boolean isThis, boolean was) {
            switch (way) {
                case 0: return isThis;
                case 1: return isThis || was;
                case 2: return was && !isThis;
                default: return was && isThis;
            }
        }

        private void pick(int wool) {
            for (int r = 0; r < cloth.rows; r++) {
                for (int c = 0; c < cloth.columns; c++) {
                    cloth.choose(r, c, cloth.isChosen(r, c) && cloth.seenAt(r, c) == wool);
                }
            }
        }

        private void show(int layer, int shown) {
            int bit = 1 << layer;
            cloth.shown = shown == 1 ? cloth.shown | bit : cloth.shown & ~bit;
        }
    }

    /** A kind of command, some of whose numbers are bound. */
    private static final class Handle {
        private final int kind;
        private final boolean[] bound = new boolean[NUMBERS];
        private final int[] values = new int[NUMBERS];

        Handle(int ofKind) {
            kind = ofKind;
        }

        boolean isBound(int i) {
            return i >= 0 && i < bound.length && bound[i];
        }

        Handle withBound(int i, int v) {
            Handle other = new Handle(kind);
            for (int k = 0; k < NUMBERS; k++) {
                other.bound[k] = bound[k] || k == i;
                other.values[k] = k == i ? v : values[k];
            }
            return other;
        }

        boolean isLike(Handle other) {
            boolean like = kind == other.kind;
            for (int k = 0; k < NUMBERS; k++) {
                // What is not bound has the value 0, so the values can always be compared.
                like = like && bound[k] == other.bound[k] && values[k] == other.values[k];
            }
            return like;
        }

        void fillIn(Command command, int[] given) {
            command.kind = kind;
            int taken = 0;
            for (int k = 0; k < NUMBERS; k++) {
                if (bound[k]) {
                    command.put(k, values[k]);
                } else {
                    command.put(k, taken < given.length ? given[taken] : 0);
                    taken++;
                }
            }
        }
    }

    /** A part of a macro: a handle with the numbers it is called with, or else a macro. */
    private static final class Part {
        final Handle handle;
        final Macro macro;
        final int[] given;

        Part(Handle called, Macro nested, int[] numbers) {
            handle = called;
            macro = nested;
            given = numbers;
        }
    }

    private static final class Macro {
        final int kind, m, w;
        int n;
        int partCount = 0;
        private final Part[] parts = new Part[MOST_PARTS];

        Macro(int ofKind, int first, int second, int third) {
            kind = ofKind;
            n = first;
            m = second;
            w = third;
        }

        boolean isFull() {
            return partCount >= parts.length;
        }

        int join(Part added) {
            if (!isFull()) {
                parts[partCount] = added;
                partCount++;
            }
            return partCount;
        }

        Part partOf(int i) {
            return i >= 0 && i < parts.length ? parts[i] : null;
        }
    }

    /** Carries out commands and macros on the cloth, up to the first failure, and says how it went. */
    private static final class Runner {
        final Readiness readiness = new Readiness();
        int failure = NO_FAILURE;
        int changed = 0;
        int commandsDone = 0;
        int failedKind = NONE;
        int failedDepth = 0;
        private final Cloth cloth;
        private final Painter painter;
        private final Looker looker;
        private final Command command = new Command();
        private int partsCalled = 0;

        Runner(Cloth workedOn) {
            cloth = workedOn;
            painter = new Painter(workedOn);
            looker = new Looker(workedOn);
        }

        void begin() {
            failure = NO_FAILURE;
            changed = 0;
            commandsDone = 0;
            failedKind = NONE;
            failedDepth = 0;
            partsCalled = 0;
        }

        /** Does one command that stands in so many macros in one another. */
        void perform(Command done, int depth) {
            commandsDone++;
            int found = readiness.ask(done, cloth);
            if (found != NO_FAILURE) {
                fail(found, done.kind, depth);
            } else if (done.kind <= MEND) {
                painter.carryOut(done);
            } else {
                looker.carryOut(done);
            }
        }

        /** Does a macro that is, itself too, the depth-th of macros in one another. */
        private void callMacro(Macro macro, int depth) {
            // Macros hold lesser ones alone: this cannot come, but it bounds the depth.
            if (depth > MOST_MACROS) {
                fail(LONG, NONE, depth);
                return;
            }
            int inUseAhead = cloth.inUse;
            int rounds = roundsOf(macro);
            for (int round = 0; round < rounds && failure == NO_FAILURE; round++) {
                if (macro.kind == EACH) {
                    cloth.inUse = round;
                }
                callParts(macro, depth);
            }
            if (macro.kind == EACH) {
                cloth.inUse = inUseAhead;
            }
        }

        private int roundsOf(Macro macro) {
            switch (macro.kind) {
                case REPEAT: return macro.n;
                case IF: return isTrue(macro) ? 1 : 0;
                case EACH: return LAYERS;
                default: return 1;
            }
        }

        private boolean isTrue(Macro macro) {
            return cloth.isKnot(macro.n, macro.m) && cloth.seenAt(macro.n, macro.m) == macro.w;
        }

        private void callParts(Macro macro, int depth) {
            for (int i = 0; i < macro.partCount && failure == NO_FAILURE; i++) {
                Part part = macro.partOf(i);
                if (partsCalled >= MOST_CALLED) {
                    fail(LONG, NONE, depth);
                    return;
                }
                partsCalled++;
                if (part != null && part.macro != null) {
                    callMacro(part.macro, depth + 1);
                } else if (part != null && part.handle != null && part.given != null) {
                    part.handle.fillIn(command, part.given);
                    perform(command, depth);
                }
            }
        }

        private void fail(int found, int kind, int depth) {
            failure = found;
            failedKind = kind;
            failedDepth = depth;
        }
    }

    private static final class Node {
        int parent = NONE;
        boolean isThere = false;
        final Cloth held = new Cloth();
    }

    /** The tree of what was done. A node is always under one of a lesser number. */
    private static final class Tree {
        /** Nodes are made as they are first needed, and used again for later cloths. */
        private final Node[] nodes = new Node[MOST_NODES];
        int atHand = 0;
        int ever = 0;

        /** Makes a tree of node 0 alone. */
        void plant(Cloth first) {
            for (int i = 0; i < nodes.length; i++) {
                if (nodes[i] != null) {
                    nodes[i].isThere = false;
                }
            }
            ever = 0;
            atHand = NONE;
            grow(first);
        }

        boolean isFull() {
            return ever >= nodes.length;
        }

        /** A new node under the one at hand, which is at hand then: its number. */
        int grow(Cloth cloth) {
            if (isFull()) {
                return FULL;
            }
            if (nodes[ever] == null) {
                nodes[ever] = new Node();
            }
            Node added = nodes[ever];
            added.parent = atHand;
            added.isThere = true;
            added.held.copyFrom(cloth);
            atHand = ever;
            ever++;
            return atHand;
        }

        private Node find(int number) {
            if (number < 0 || number >= nodes.length) {
                return null;
            }
            Node found = nodes[number];
            return found != null && found.isThere ? found : null;
        }

        boolean has(int number) {
            return find(number) != null;
        }

        Cloth clothOf(int number) {
            Node found = find(number);
            return found == null ? null : found.held;
        }

        int parentOf(int number) {
            Node found = find(number);
            return found == null ? NONE : found.parent;
        }

        int thereCount() {
            int count = 0;
            for (int i = 0; i < nodes.length; i++) {
                if (has(i)) {
                    count++;
                }
            }
            return count;
        }

        int countUnder(int number) {
            int count = 0;
            for (int i = 0; i < nodes.length; i++) {
                if (has(i) && parentOf(i) == number) {
                    count++;
                }
            }
            return count;
        }

        int highestUnder(int number) {
            for (int i = nodes.length - 1; i >= 0; i--) {
                if (has(i) && parentOf(i) == number) {
                    return i;
                }
            }
            return NONE;
        }

        int changedIn(int number) {
            Cloth cloth = clothOf(number);
            Cloth ahead = clothOf(parentOf(number));
            return cloth == null || ahead == null ? 0 : cloth.changedFrom(ahead);
        }

        int stepsBetween(int from, int to) {
            int one = from;
            int other = to;
            int steps = 0;
            // The greater of two numbers is never over the lesser, so it is the one to go up from.
            while (one != other && steps < 2 * MOST_NODES) {
                if (one > other) {
                    one = parentOf(one);
                } else {
                    other = parentOf(other);
                }
                steps++;
            }
            return steps;
        }

        /** Takes out a node that has just one under it: the number of that one. */
        int takeOut(int number) {
            Node gone = find(number);
            int below = highestUnder(number);
            Node lower = find(below);
            if (gone != null && lower != null) {
                lower.parent = gone.parent;
                gone.isThere = false;
            }
            return below;
        }
    }
}
