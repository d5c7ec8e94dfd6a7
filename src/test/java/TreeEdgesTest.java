/** The edges that part 4 of the terms and promises 19 to 26 name: a method for each sentence. */
public final class TreeEdgesTest {
    private static final Due T = new Due();
    private static final int LEAST = Integer.MIN_VALUE, MOST = Integer.MAX_VALUE;
    private static final int BAD = TapestryDesk.BAD, STATE = TapestryDesk.STATE, FULL = TapestryDesk.FULL;
    private static final int NONE = TapestryDesk.NONE, FAILED = TapestryDesk.FAILED;

    public static void main(String[] args) {
        sixtyAtMost();
        noNumberComesAgain();
        theFirstIsTheClothAsTold();
        aNodeThoughNothingChanged();
        whatANodeHas();
        refusedInOrder();
        nodeAtHand();
        goBad();
        goSteps();
        goTheFarthest();
        undoState();
        undoAllTheWay();
        redoState();
        redoTheLatest();
        toldBad();
        toldOfTheFirst();
        toldUnder();
        toldChanged();
        toldTheFarthest();
        squeezeBad();
        squeezeState();
        squeezeUnder();
        squeezeAllTheWay();
        traceOfWhatFailed();
        traceNotByOthers();
        traceOfTheMost();
        digestOfOneKnot();
        digestInOrder();
        digestOfTheMost();
        T.end();
    }

    private static void useLayer(TapestryDesk x, int often) {
        for (int i = 0; i < often; i++) {
            x.run(11, 0, 0, 0, 0, 0);
        }
    }

    private static void sixtyAtMost() {
        T.of("4 NODES (60 at most; no number comes again) make a tree");
        TapestryDesk x = new TapestryDesk();
        for (int i = 1; i <= 59; i++) {
            T.due("run " + i, x.run(11, 0, 0, 0, 0, 0), i);
        }
        T.due("a 61st", x.run(11, 0, 0, 0, 0, 0), FULL);
        T.due("about(7)", x.about(7), 60);
        T.due("about(8)", x.about(8), 60);
        T.due("the last one is there", x.go(59), 0);
        T.due("none behind it", x.go(60), BAD);
    }

    private static void noNumberComesAgain() {
        T.of("no number comes again");
        TapestryDesk x = new TapestryDesk();
        useLayer(x, 3);
        T.due("squeeze(2)", x.squeeze(2), 3);
        T.due("behind a gap", x.run(11, 0, 0, 0, 0, 0), 4);
        x.go(0);
        T.due("under another one", x.run(11, 0, 0, 0, 0, 0), 5);
        useLayer(x, 54);
        T.due("about(7)", x.about(7), 59);
        T.due("full, though one is gone", x.run(11, 0, 0, 0, 0, 0), FULL);
        T.due("2 is gone", x.go(2), BAD);
    }

    private static void theFirstIsTheClothAsTold() {
        T.of("0 is THE CLOTH as it was told.");
        TapestryDesk x = new TapestryDesk();
        long first = x.digest();
        x.run(6, 5, 0, 0, 0, 5);
        x.run(11, 2, 0, 0, 0, 0);
        x.go(0);
        T.due("digest() of the first", x.digest(), first);
        x.cloth(2, 3);
        long told = x.digest();
        x.run(6, 5, 0, 0, 0, 5);
        x.go(0);
        T.due("digest() of the first of a new cloth", x.digest(), told);
        T.due("about(0)", x.about(0), 2);
        T.due("about(1)", x.about(1), 3);
    }

    private static void aNodeThoughNothingChanged() {
        T.of("is a new NODE, under the one at hand, and is at hand then (also if nothing changed).");
        TapestryDesk x = new TapestryDesk();
        x.handle(11);
        x.macro(0, 0, 0, 0);
        T.due("run", x.run(11, 0, 0, 0, 0, 0), 1);
        T.due("node()", x.node(), 1);
        T.due("call", x.call(0, 0, 0, 0, 0, 0), 2);
        T.due("node()", x.node(), 2);
        T.due("play", x.play(0), 3);
        T.due("node()", x.node(), 3);
        for (int node = 1; node <= 3; node++) {
            T.due("told(" + node + ", 0)", x.told(node, 0), node - 1);
            T.due("told(" + node + ", 3)", x.told(node, 3), 0);
        }
        x.go(1);
        T.due("run under 1", x.run(11, 0, 0, 0, 0, 0), 4);
        T.due("told(4, 0)", x.told(4, 0), 1);
        T.due("what fails is none", x.run(11, 3, 0, 0, 0, 0), FAILED);
        T.due("node()", x.node(), 4);
        T.due("about(7)", x.about(7), 5);
    }

    private static void whatANodeHas() {
        T.of("What a NODE has are WOOLS, THE SELECTION, what is IN USE, SHOWN.");
        TapestryDesk x = new TapestryDesk();
        x.cloth(1, 3);
        int[][] runs = {{0, 0, 0, 0, 0, 5}, {11, 2}, {0, 0, 1, 0, 0, 6}, {12, 0, 0}, {9, 0, 1, 1, 2, 0}, {11, 1}, {0, 0, 2, 0, 0, 7}};
        long[] digests = new long[runs.length + 1];
        digests[0] = x.digest();
        for (int i = 0; i < runs.length; i++) {
            T.due("run " + i, Due.run(x, runs[i]), i + 1);
            digests[i + 1] = x.digest();
        }
        for (int node : new int[] {0, 7, 3, 5, 1, 6, 2, 4}) {
            x.go(node);
            T.due("digest() of " + node, x.digest(), digests[node]);
        }
        x.go(7);
        T.due("layer 0", Due.picture(x, 0), "500");
        T.due("layer 1", Due.picture(x, 1), "007");
        T.due("layer 2", Due.picture(x, 2), "060");
        T.due("selection", Due.selection(x), "011");
        T.due("about(2)", x.about(2), 1);
        T.due("about(3)", x.about(3), 6);
        int handle = x.handle(0);
        x.macro(0, 0, 0, 0);
        x.go(0);
        T.due("handles are not in it", x.about(5), handle + 1);
        T.due("nor macros", x.about(6), 1);
    }

    /** Where two refusals could come, the first in this order does. */
    private static void refusedInOrder() {
        T.of("Refused, and nothing changes, the first of these: BAD (a number is not as told, or there is no such thing), STATE"
                + " (as told), FULL (of run(), call(), play(): 60 NODES ever).");
        TapestryDesk x = new TapestryDesk();
        x.handle(0);
        x.bind(0, 0, 0);
        for (int i = 2; i < 40; i++) {
            x.handle(0);
        }
        useLayer(x, 59);
        T.refuses(x, "BAD ahead of STATE and FULL", () -> x.bind(1, 5, 0), BAD);
        T.refuses(x, "STATE ahead of FULL", () -> x.bind(1, 0, 0), STATE);
        T.refuses(x, "FULL", () -> x.bind(1, 1, 0), FULL);
        T.refuses(x, "BAD ahead of FULL", () -> x.run(13, 0, 0, 0, 0, 0), BAD);
        T.refuses(x, "FULL ahead of FAILED", () -> x.run(0, 9, 9, 0, 0, 0), FULL);
        T.refuses(x, "BAD ahead of STATE", () -> x.squeeze(60), BAD);
    }

    private static void nodeAtHand() {
        T.of("The NODE at hand.");
        TapestryDesk x = new TapestryDesk();
        T.due("at first", x.node(), 0);
        useLayer(x, 59);
        T.due("the last", x.node(), 59);
        x.run(11, 0, 0, 0, 0, 0);
        T.due("when full", x.node(), 59);
        x.go(7);
        T.due("gone to", x.node(), 7);
        x.go(60);
        T.due("not gone to", x.node(), 7);
        x.cloth(11, 1);
        T.due("behind a cloth refused", x.node(), 7);
        x.cloth(10, 1);
        T.due("behind a cloth", x.node(), 0);
    }

    private static void goBad() {
        T.of("All becomes what a NODE has, which is at hand then: how many steps of the tree lie between. BAD.");
        TapestryDesk x = new TapestryDesk();
        for (int node : new int[] {-1, 1, 60, NONE, LEAST, MOST}) {
            T.refuses(x, "go(" + node + ")", () -> x.go(node), BAD);
        }
        useLayer(x, 3);
        x.squeeze(1);
        for (int node : new int[] {1, 4}) {
            T.refuses(x, "go(" + node + ")", () -> x.go(node), BAD);
        }
        T.due("go(0)", x.go(0), 2);
    }

    private static void goSteps() {
        T.of("how many steps of the tree lie between");
        TapestryDesk x = new TapestryDesk();
        useLayer(x, 3);
        x.go(1);
        useLayer(x, 1);
        x.go(0);
        useLayer(x, 1);
        // 0 - 1 - 2 - 3, 1 - 4, 0 - 5
        int[][] steps = {{0, 1, 2, 3, 2, 1}, {1, 0, 1, 2, 1, 2}, {2, 1, 0, 1, 2, 3}, {3, 2, 1, 0, 3, 4}, {2, 1, 2, 3, 0, 3},
            {1, 2, 3, 4, 3, 0}};
        for (int from = 0; from < steps.length; from++) {
            for (int to = 0; to < steps.length; to++) {
                x.go(from);
                T.due("go(" + to + ") from " + from, x.go(to), steps[from][to]);
                T.due("node()", x.node(), to);
            }
        }
    }

    private static void goTheFarthest() {
        T.of("how many steps of the tree lie between. BAD.");
        TapestryDesk x = new TapestryDesk();
        useLayer(x, 59);
        T.due("all the way up", x.go(0), 59);
        T.due("all the way down", x.go(59), 59);
        T.due("where it is", x.go(59), 0);
        x.cloth(8, 8);
        useLayer(x, 30);
        x.go(0);
        useLayer(x, 29);
        T.due("over the first", x.go(30), 59);
        T.due("and back", x.go(59), 59);
    }

    private static void undoState() {
        T.of("go() to the NODE under which that at hand is: its number. STATE: there is none.");
        TapestryDesk x = new TapestryDesk();
        T.refuses(x, "undo() of a new one", () -> x.undo(), STATE);
        x.run(6, 5, 0, 0, 0, 5);
        T.due("undo()", x.undo(), 0);
        T.due("used(5)", x.used(5), 0);
        T.refuses(x, "undo() of the first", () -> x.undo(), STATE);
        x.redo();
        x.cloth(8, 8);
        T.refuses(x, "undo() of a new cloth", () -> x.undo(), STATE);
    }

    private static void undoAllTheWay() {
        T.of("go() to the NODE under which that at hand is: its number.");
        TapestryDesk x = new TapestryDesk();
        for (int i = 1; i < 60; i++) {
            x.run(0, 0, 0, 0, 0, i % 10);
        }
        for (int i = 58; i >= 0; i--) {
            T.due("undo() to " + i, x.undo(), i);
            T.due("its wool", x.at(0, 0, 0), i % 10);
        }
        T.due("no further", x.undo(), STATE);
        for (int i = 1; i < 60; i++) {
            T.due("redo() to " + i, x.redo(), i);
            T.due("its wool", x.at(0, 0, 0), i % 10);
        }
        T.due("no further", x.redo(), STATE);
    }

    private static void redoState() {
        T.of("its number. STATE: there is none.");
        TapestryDesk x = new TapestryDesk();
        T.refuses(x, "redo() of a new one", () -> x.redo(), STATE);
        x.run(6, 5, 0, 0, 0, 5);
        T.refuses(x, "redo() of the last", () -> x.redo(), STATE);
        x.undo();
        T.due("redo()", x.redo(), 1);
        T.due("used(5)", x.used(5), 64);
        x.undo();
        x.cloth(8, 8);
        T.refuses(x, "redo() of a new cloth", () -> x.redo(), STATE);
    }

    private static void redoTheLatest() {
        T.of("go() to the latest (by number) NODE under that at hand: its number.");
        TapestryDesk x = new TapestryDesk();
        useLayer(x, 1);
        x.go(0);
        useLayer(x, 1);
        x.go(1);
        useLayer(x, 2);
        x.go(0);
        T.due("not where one was last", x.redo(), 2);
        x.go(0);
        x.squeeze(1);
        // 3 came under the first as 1 went: it is the highest now.
        T.due("one that came there by squeeze()", x.redo(), 3);
        T.due("node()", x.node(), 3);
    }

    private static void toldBad() {
        T.of("4 how many steps it is from the first. BAD.");
        TapestryDesk x = new TapestryDesk();
        useLayer(x, 2);
        for (int node : new int[] {-1, 3, 60, NONE, LEAST, MOST}) {
            for (int what = 0; what <= 4; what++) {
                T.due("told(" + node + ", " + what + ")", x.told(node, what), BAD);
            }
        }
        for (int what : new int[] {-1, 5, LEAST, MOST}) {
            T.due("told(0, " + what + ")", x.told(0, what), BAD);
            T.due("told(2, " + what + ")", x.told(2, what), BAD);
            T.due("told(3, " + what + ")", x.told(3, what), BAD);
        }
        x.squeeze(1);
        for (int what = 0; what <= 4; what++) {
            T.due("of one that is gone, " + what, x.told(1, what), BAD);
        }
    }

    private static void tellsAll(TapestryDesk x, int node, String want) {
        String got = x.told(node, 0) + " " + x.told(node, 1) + " " + x.told(node, 2) + " " + x.told(node, 3) + " "
                + x.told(node, 4);
        T.due("told(" + node + ")", got, want);
    }

    private static void toldOfTheFirst() {
        T.of("0 the one that it is under (NONE), 1 how many are under it, 2 the highest of these (NONE)");
        TapestryDesk x = new TapestryDesk();
        tellsAll(x, 0, "-9 0 -9 0 0");
        x.run(6, 5, 0, 0, 0, 5);
        tellsAll(x, 0, "-9 1 1 0 0");
        tellsAll(x, 1, "0 0 -9 64 1");
    }

    private static void toldUnder() {
        T.of("1 how many are under it, 2 the highest of these (NONE)");
        TapestryDesk x = new TapestryDesk();
        for (int i = 1; i < 60; i++) {
            x.go(0);
            useLayer(x, 1);
        }
        tellsAll(x, 0, "-9 59 59 0 0");
        tellsAll(x, 1, "0 0 -9 0 1");
        tellsAll(x, 59, "0 0 -9 0 1");
        x.cloth(8, 8);
        useLayer(x, 3);
        // Those that are under one that is under it are not under it.
        tellsAll(x, 0, "-9 1 1 0 0");
        tellsAll(x, 1, "0 1 2 0 1");
    }

    private static void toldChanged() {
        T.of("3 KNOTS whose WOOL in some LAYER is another one than in the one that it is under (0 of the first)");
        TapestryDesk x = new TapestryDesk();
        x.cloth(10, 10);
        x.macro(3, 0, 0, 0);
        x.part(0, x.bind(x.handle(6), 4, 5), 5, 0, 0, 0);
        x.play(0);
        x.run(12, 0, 0, 0, 0, 0);
        x.run(9, 0, 0, 1, 1, 0);
        x.run(0, 0, 0, 0, 0, 4);
        x.run(0, 0, 0, 0, 0, 5);
        int[] want = {0, 100, 0, 0, 1, 1};
        for (int node = 0; node < want.length; node++) {
            T.due("told(" + node + ", 3)", x.told(node, 3), want[node]);
        }
        x.squeeze(4);
        T.due("back to what the one over it has", x.told(5, 3), 0);
    }

    private static void toldTheFarthest() {
        T.of("4 how many steps it is from the first.");
        TapestryDesk x = new TapestryDesk();
        useLayer(x, 59);
        for (int node = 0; node < 60; node++) {
            T.due("told(" + node + ", 4)", x.told(node, 4), node);
        }
        x.go(0);
        T.due("wherever one is", x.told(59, 4), 59);
        x.squeeze(30);
        T.due("one fewer", x.told(59, 4), 58);
        T.due("ahead of it as it was", x.told(29, 4), 29);
    }

    private static void squeezeBad() {
        T.of("that one is under the one that it was under. BAD; STATE: it is not so.");
        TapestryDesk x = new TapestryDesk();
        useLayer(x, 3);
        for (int node : new int[] {-1, 4, 60, NONE, LEAST, MOST}) {
            T.refuses(x, "squeeze(" + node + ")", () -> x.squeeze(node), BAD);
        }
        T.due("squeeze(1)", x.squeeze(1), 2);
        T.refuses(x, "squeeze(1) again", () -> x.squeeze(1), BAD);
    }

    private static void squeezeState() {
        T.of("A NODE that is not at hand, not the first, and has just one under it, is gone");
        TapestryDesk x = new TapestryDesk();
        T.refuses(x, "the first alone, at hand", () -> x.squeeze(0), STATE);
        useLayer(x, 1);
        T.refuses(x, "the first, which has one", () -> x.squeeze(0), STATE);
        T.refuses(x, "one at hand that has none", () -> x.squeeze(1), STATE);
        useLayer(x, 1);
        x.go(1);
        T.refuses(x, "one at hand that has one", () -> x.squeeze(1), STATE);
        T.refuses(x, "one that has none", () -> x.squeeze(2), STATE);
        useLayer(x, 1);
        T.refuses(x, "one that has two", () -> x.squeeze(1), STATE);
        x.go(2);
        useLayer(x, 1);
        x.go(0);
        T.due("one that has one", x.squeeze(2), 4);
        T.refuses(x, "one that still has two", () -> x.squeeze(1), STATE);
    }

    private static void squeezeUnder() {
        T.of("is gone: that one is under the one that it was under.");
        TapestryDesk x = new TapestryDesk();
        x.cloth(1, 3);
        x.run(0, 0, 0, 0, 0, 1);
        x.run(0, 0, 1, 0, 0, 2);
        x.run(0, 0, 2, 0, 0, 3);
        T.due("squeeze(2)", x.squeeze(2), 3);
        tellsAll(x, 3, "1 0 -9 2 2");
        tellsAll(x, 1, "0 1 3 1 1");
        T.due("at hand stays", x.node(), 3);
        T.due("its wools stay", Due.picture(x, 0), "123");
        T.due("undo()", x.undo(), 1);
        T.due("its wools", Due.picture(x, 0), "100");
        T.due("redo()", x.redo(), 3);
        T.due("its wools", Due.picture(x, 0), "123");
    }

    private static void squeezeAllTheWay() {
        T.of("The number of that one.");
        TapestryDesk x = new TapestryDesk();
        useLayer(x, 59);
        for (int node = 58; node >= 1; node--) {
            T.due("squeeze(" + node + ")", x.squeeze(node), 59);
        }
        tellsAll(x, 0, "-9 1 59 0 0");
        tellsAll(x, 59, "0 0 -9 0 1");
        T.due("about(7)", x.about(7), 2);
        T.due("about(8)", x.about(8), 60);
        T.due("go(0)", x.go(0), 1);
        T.due("squeeze(59), which has none", x.squeeze(59), STATE);
    }

    private static void traceOfWhatFailed() {
        T.of("the sum of the numbers in brackets of all that was done by run(), call(), play(), of what failed, too");
        TapestryDesk x = new TapestryDesk();
        T.due("at first", x.trace(), 0);
        x.run(0, 0, 0, 0, 0, 1);
        T.due("of a run", x.trace(), 1011);
        x.run(0, 8, 0, 0, 0, 1);
        T.due("of a run that failed", x.trace(), 2011);
        x.call(x.handle(2), 0, 0, 0, 0, 1);
        T.due("of a call", x.trace(), 103022);
        x.macro(1, 9, 0, 0);
        x.part(0, x.handle(11), 0, 0, 0, 0);
        x.part(0, x.handle(11), 3, 0, 0, 0);
        x.play(0);
        T.due("of a play that failed", x.trace(), 103223);
        x.undo();
        T.due("of what is undone, too", x.trace(), 103223);
    }

    private static void traceNotByOthers() {
        T.of("of what failed, too (not by others).");
        TapestryDesk x = new TapestryDesk();
        useLayer(x, 58);
        x.handle(0);
        x.macro(0, 0, 0, 0);
        x.part(0, 0, 0, 0, 0, 0);
        long trace = 58 * 101;
        x.run(13, 0, 0, 0, 0, 0);
        x.call(1, 0, 0, 0, 0, 0);
        x.play(1);
        T.due("not of what is BAD", x.trace(), trace);
        x.go(3);
        x.undo();
        x.redo();
        x.squeeze(1);
        x.at(0, 0, 0);
        x.digest();
        T.due("not by others", x.trace(), trace);
        useLayer(x, 1);
        trace += 101;
        x.run(11, 0, 0, 0, 0, 0);
        x.call(0, 0, 0, 0, 0, 0);
        x.play(0);
        T.due("not of what is FULL", x.trace(), trace);
        x.cloth(1, 1);
        T.due("not of a cloth", x.trace(), trace);
    }

    /** A LINE brings the most; the sum of many goes beyond an int. */
    private static void traceOfTheMost() {
        T.of("THE TRACE: the sum of the numbers in brackets");
        TapestryDesk x = new TapestryDesk();
        x.handle(2);
        x.macro(1, 9, 0, 0);
        x.macro(0, 0, 0, 0);
        for (int i = 0; i < 8; i++) {
            x.part(0, 0, 0, 0, 7, 7);
        }
        for (int i = 0; i < 4; i++) {
            x.nest(1, 0);
        }
        // Of four times 73 parts 288 are lines.
        long each = 288L * 101011;
        for (int i = 1; i < 60; i++) {
            T.due("play " + i, x.play(1), i);
        }
        T.due("59 plays", x.trace(), 59 * each);
        x.cloth(8, 8);
        for (int i = 1; i < 60; i++) {
            x.play(1);
        }
        T.due("118 plays", x.trace(), 118 * each);
        T.isTrue("beyond an int", x.trace() > MOST);
    }

    private static void digestOfOneKnot() {
        T.of("h = 7; then h = 31 h + v for each v");
        TapestryDesk x = new TapestryDesk();
        x.cloth(1, 1);
        long h = 7L * 31 * 31 * 31 * 31 + 1;
        T.due("digest() of one knot", x.digest(), h * 31 * 31 + 7);
    }

    private static void digestInOrder() {
        T.of("of all KNOTS by rows, by columns, WOOLS of LAYERS 0, 1, 2, and 1 or 0, as they are in THE SELECTION; then IN USE,"
                + " SHOWN as bits.");
        TapestryDesk x = new TapestryDesk();
        x.cloth(2, 2);
        Due.spots(x, "12/34");
        x.run(11, 1, 0, 0, 0, 0);
        Due.spots(x, "56/78");
        x.run(11, 2, 0, 0, 0, 0);
        Due.spots(x, "91/23");
        Due.choose(x, "01/10");
        x.run(12, 1, 0, 0, 0, 0);
        int[] order = {1, 5, 9, 0, 2, 6, 1, 1, 3, 7, 2, 1, 4, 8, 3, 0, 2, 5};
        long h = 7;
        for (int v : order) {
            h = 31 * h + v;
        }
        T.due("digest()", x.digest(), h);
        Due.chooseNone(x);
        T.isTrue("another selection, another digest()", x.digest() != h);
    }

    private static void digestOfTheMost() {
        T.of("of all KNOTS by rows, by columns");
        TapestryDesk x = new TapestryDesk();
        x.cloth(10, 10);
        x.macro(3, 0, 0, 0);
        x.part(0, x.bind(x.handle(6), 4, 9), 5, 0, 0, 0);
        x.play(0);
        x.run(11, 2, 0, 0, 0, 0);
        long h = 7;
        for (int i = 0; i < 100; i++) {
            h = ((h * 31 + 9) * 31 + 9) * 31 + 9;
            h = h * 31 + 1;
        }
        T.due("digest() of 10 by 10", x.digest(), (h * 31 + 2) * 31 + 7);
        x.cloth(1, 10);
        h = 7;
        for (int i = 0; i < 10; i++) {
            h = h * 31 * 31 * 31 * 31 + 1;
        }
        T.due("digest() of 1 by 10", x.digest(), h * 31 * 31 + 7);
    }
}
