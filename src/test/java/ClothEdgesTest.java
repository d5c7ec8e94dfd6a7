/** The edges that part 1 of the terms and promises 1 to 7 name: a method for each sentence. */
public final class ClothEdgesTest {
    private static final Due T = new Due();
    private static final int LEAST = Integer.MIN_VALUE, MOST = Integer.MAX_VALUE;
    private static final int BAD = TapestryDesk.BAD, STATE = TapestryDesk.STATE, FULL = TapestryDesk.FULL;
    private static final int NONE = TapestryDesk.NONE, FAILED = TapestryDesk.FAILED;

    public static void main(String[] args) {
        sidesAtFirst();
        layers();
        wools();
        noWool();
        inUseAndShownAtFirst();
        seen();
        selectionAtFirst();
        boxOfTheSelection();
        newObject();
        clothThatFits();
        clothThatDoesNot();
        clothIsNew();
        clothLeaves();
        clothBeginsTheCountAgain();
        atRefuses();
        atOfTheCornersAlone();
        isSelectedRefuses();
        aboutRefuses();
        aboutOfNone();
        aboutOfTheMost();
        usedRefuses();
        usedOfNoneAndAll();
        floatsRefuse();
        floatsMoreThan();
        floatsOfNoWool();
        floatsAsLongAsCanBe();
        floatsNone();
        T.end();
    }

    private static void sidesAtFirst() {
        T.of("1 THE CLOTH has ROWS and COLUMNS (8 each at first; 1 ..");
        TapestryDesk x = new TapestryDesk();
        T.due("about(0)", x.about(0), 8);
        T.due("about(1)", x.about(1), 8);
        T.due("at(7, 7, 0)", x.at(7, 7, 0), 0);
        T.due("at(8, 7, 0)", x.at(8, 7, 0), BAD);
        T.due("at(7, 8, 0)", x.at(7, 8, 0), BAD);
    }

    private static void layers() {
        T.of("LAYERS 0 .. 2");
        TapestryDesk x = new TapestryDesk();
        for (int layer = 0; layer <= 2; layer++) {
            T.fits(x, Due.cmd(11, layer), 101);
            T.due("at(0, 0, " + layer + ")", x.at(0, 0, layer), 0);
        }
        for (int layer : new int[] {3, -2, LEAST, MOST}) {
            T.fails(x, Due.cmd(11, layer), 1, 100);
            T.due("at(0, 0, " + layer + ")", x.at(0, 0, layer), BAD);
        }
        T.fails(x, Due.cmd(11, -1), 1, 100);
    }

    private static void wools() {
        T.of("each KNOT (r, c) has in each LAYER a WOOL 0 .. 9");
        TapestryDesk x = new TapestryDesk();
        x.cloth(2, 2);
        for (int layer = 0; layer <= 2; layer++) {
            x.run(11, layer, 0, 0, 0, 0);
            T.fits(x, Due.cmd(0, 1, 1, 0, 0, 9), 1011);
            T.due("the greatest wool", x.at(1, 1, layer), 9);
            T.fails(x, Due.cmd(0, 1, 1, 0, 0, 10), 2, 1010);
            T.fails(x, Due.cmd(0, 1, 1, 0, 0, -1), 2, 1010);
            T.due("a wool beyond does not come", x.at(1, 1, layer), 9);
            T.fits(x, Due.cmd(0, 1, 1, 0, 0, 0), 1011);
            T.due("the least wool", x.at(1, 1, layer), 0);
        }
    }

    private static void noWool() {
        T.of("0, as all are at first, is none.");
        TapestryDesk x = new TapestryDesk();
        x.cloth(1, 2);
        for (int layer = -1; layer <= 2; layer++) {
            T.due("layer " + layer + " at first", Due.picture(x, layer), "00");
        }
        Due.spots(x, "34");
        x.run(11, 2, 0, 0, 0, 0);
        Due.spots(x, "56");
        T.due("seen", Due.picture(x, -1), "56");
        x.run(0, 0, 0, 0, 0, 0);
        T.due("seen through none", Due.picture(x, -1), "36");
    }

    private static void inUseAndShownAtFirst() {
        T.of("One LAYER is IN USE (0 at first), each is SHOWN or not (all at first).");
        TapestryDesk x = new TapestryDesk();
        T.due("about(2)", x.about(2), 0);
        T.due("about(3)", x.about(3), 7);
        x.run(0, 0, 0, 0, 0, 5);
        T.due("painted in layer 0", x.at(0, 0, 0), 5);
        T.due("not in layer 1", x.at(0, 0, 1), 0);
        T.due("not in layer 2", x.at(0, 0, 2), 0);
        T.due("and seen", x.at(0, 0, -1), 5);
    }

    /** Column c has wool 1 + layer in those layers that are bits of c: each set of layers comes. */
    private static void seen() {
        T.of("SEEN at a KNOT is the WOOL of the highest LAYER that is SHOWN and has one there, else 0.");
        String[] want = {"00000000", "01010101", "00220022", "01220122", "00003333", "01013333", "00223333", "01223333"};
        for (int shown = 0; shown < want.length; shown++) {
            TapestryDesk x = new TapestryDesk();
            x.cloth(1, 8);
            Due.spots(x, "01010101");
            x.run(11, 1, 0, 0, 0, 0);
            Due.spots(x, "00220022");
            x.run(11, 2, 0, 0, 0, 0);
            Due.spots(x, "00003333");
            for (int layer = 0; layer <= 2; layer++) {
                x.run(12, layer, shown >> layer & 1, 0, 0, 0);
            }
            T.due("seen of " + shown, Due.picture(x, -1), want[shown]);
        }
    }

    private static void selectionAtFirst() {
        T.of("THE SELECTION is a set of KNOTS (all at first)");
        TapestryDesk x = new TapestryDesk();
        T.due("all of 8 by 8", x.about(4), 64);
        x.run(9, 0, 0, 8, 8, 2);
        T.due("none", x.about(4), 0);
        x.cloth(10, 10);
        T.due("all of 10 by 10", x.about(4), 100);
        T.due("the last too", x.isSelected(9, 9), 1);
        x.cloth(1, 1);
        T.due("all of 1 by 1", x.about(4), 1);
        T.fits(x, Due.cmd(9, 0, 0, 1, 1, 1), 101);
        T.due("a knot is in a set once", x.about(4), 1);
    }

    private static void boxOfTheSelection() {
        T.of("ITS BOX the least rows, columns that have all of it.");
        mirrored("000/010/000", 0, "123/456/789");
        mirrored("000/011/000", 0, "123/465/789");
        mirrored("001/000/100", 0, "121/456/989");
        mirrored("001/000/100", 1, "129/456/189");
        mirrored("010/000/010", 0, "123/456/789");
        mirrored("000/001/001", 1, "123/459/786");
        mirrored("111/111/111", 1, "789/456/123");
    }

    private static void mirrored(String chosen, int a, String want) {
        TapestryDesk x = Due.desk("123/456/789");
        Due.choose(x, chosen);
        x.run(4, a, 0, 0, 0, 0);
        T.due("mirror " + a + " of the box of " + chosen, Due.picture(x, 0), want);
    }

    private static void newObject() {
        T.of("A CLOTH of 8 by 8, NODE 0; no HANDLES, no MACROS.");
        TapestryDesk x = new TapestryDesk();
        int[] want = {8, 8, 0, 7, 64, 0, 0, 1, 1};
        for (int what = 0; what < want.length; what++) {
            T.due("about(" + what + ")", x.about(what), want[what]);
        }
        T.due("node()", x.node(), 0);
        T.due("go(1)", x.go(1), BAD);
        T.due("bind(0, 0, 0)", x.bind(0, 0, 0), BAD);
        T.due("same(0, 0)", x.same(0, 0), BAD);
        T.due("call(0)", x.call(0, 0, 0, 0, 0, 0), BAD);
        T.due("times(0, 1)", x.times(0, 1), BAD);
        T.due("play(0)", x.play(0), BAD);
        T.due("the first handle", x.handle(0), 0);
        T.due("part(0, 0)", x.part(0, 0, 0, 0, 0, 0), BAD);
        T.due("the first macro", x.macro(0, 0, 0, 0), 0);
    }

    private static void clothThatFits() {
        T.of("A new CLOTH, all as at first");
        int[][] sides = {{1, 1}, {1, 10}, {10, 1}, {10, 10}, {2, 9}};
        for (int[] v : sides) {
            TapestryDesk x = new TapestryDesk();
            String call = "cloth(" + v[0] + ", " + v[1] + ")";
            T.due(call, x.cloth(v[0], v[1]), 1);
            T.due(call + " about(0)", x.about(0), v[0]);
            T.due(call + " about(1)", x.about(1), v[1]);
            T.due(call + " about(4)", x.about(4), v[0] * v[1]);
            T.due(call + " used(0)", x.used(0), v[0] * v[1]);
            T.due(call + " the last knot", x.at(v[0] - 1, v[1] - 1, 0), 0);
            T.due(call + " no row behind it", x.at(v[0], 0, 0), BAD);
            T.due(call + " no column behind it", x.at(0, v[1], 0), BAD);
        }
    }

    private static void clothThatDoesNot() {
        T.of("BAD: 1 .. 10 each.");
        TapestryDesk x = Due.desk("12/34");
        x.run(9, 0, 0, 1, 1, 0);
        for (int v : new int[] {0, 11, -1, LEAST, MOST}) {
            T.refuses(x, "cloth(" + v + ", 5)", () -> x.cloth(v, 5), BAD);
            T.refuses(x, "cloth(5, " + v + ")", () -> x.cloth(5, v), BAD);
        }
        T.refuses(x, "cloth(0, 11)", () -> x.cloth(0, 11), BAD);
    }

    private static void clothIsNew() {
        T.of("A new CLOTH, all as at first, NODE 0 alone");
        TapestryDesk x = new TapestryDesk();
        x.cloth(10, 10);
        for (int layer = 2; layer >= 0; layer--) {
            x.run(11, layer, 0, 0, 0, 0);
            x.run(6, 5, 0, 0, 0, 7);
        }
        x.run(11, 2, 0, 0, 0, 0);
        x.run(12, 1, 0, 0, 0, 0);
        Due.chooseNone(x);
        T.due("cloth(1, 1)", x.cloth(1, 1), 1);
        T.due("cloth(10, 10)", x.cloth(10, 10), 1);
        TapestryDesk y = new TapestryDesk();
        y.cloth(10, 10);
        T.due("digest() as of one at first", x.digest(), y.digest());
        T.due("node()", x.node(), 0);
        T.due("about(7)", x.about(7), 1);
        T.due("told(0, 0)", x.told(0, 0), NONE);
        T.due("told(0, 1)", x.told(0, 1), 0);
        T.due("go(1)", x.go(1), BAD);
        T.due("told(9, 0)", x.told(9, 0), BAD);
        T.due("squeeze(1)", x.squeeze(1), BAD);
        T.due("undo()", x.undo(), STATE);
        T.due("redo()", x.redo(), STATE);
    }

    private static void clothLeaves() {
        T.of("(HANDLES, MACROS, outcome(), THE TRACE stay): 1.");
        TapestryDesk x = new TapestryDesk();
        int spot = x.bind(x.handle(0), 4, 6);
        int macro = x.macro(1, 3, 0, 0);
        x.part(macro, spot, 7, 7, 0, 0);
        x.play(macro);
        x.call(spot, 8, 0, 0, 0, 0);
        String outcome = Due.outcome(x);
        T.due("outcome()", outcome, "1 0 1 0 0");
        T.due("cloth(7, 7)", x.cloth(7, 7), 1);
        T.due("outcome() stays", Due.outcome(x), outcome);
        T.due("trace() stays", x.trace(), 3 * 1011 + 1000);
        T.due("about(5) stays", x.about(5), 2);
        T.due("about(6) stays", x.about(6), 1);
        T.due("(7, 7) is no knot any more", x.play(macro), FAILED);
        x.cloth(8, 8);
        T.due("and is one again", x.play(macro), 1);
        T.due("its wool", x.at(7, 7, 0), 6);
    }

    private static void clothBeginsTheCountAgain() {
        T.of("the count of NODES ever, too");
        TapestryDesk x = new TapestryDesk();
        for (int i = 1; i < 60; i++) {
            x.run(11, 0, 0, 0, 0, 0);
        }
        T.due("about(8)", x.about(8), 60);
        T.due("full", x.run(11, 0, 0, 0, 0, 0), FULL);
        T.due("cloth(8, 8)", x.cloth(8, 8), 1);
        T.due("about(8)", x.about(8), 1);
        for (int i = 1; i < 60; i++) {
            T.due("run " + i, x.run(11, 0, 0, 0, 0, 0), i);
        }
        T.due("full again", x.run(11, 0, 0, 0, 0, 0), FULL);
    }

    private static void atRefuses() {
        T.of("WOOL of a KNOT in a LAYER; SEEN (layer = -1). -1: BAD.");
        TapestryDesk x = new TapestryDesk();
        x.cloth(3, 5);
        x.run(6, 5, 0, 0, 0, 7);
        int[][] bad = {{-1, 0}, {0, -1}, {3, 0}, {0, 5}, {3, 5}, {2, 5}, {3, 4}, {-1, 5}, {LEAST, 0}, {0, LEAST}, {MOST, 0},
            {0, MOST}};
        for (int[] v : bad) {
            T.due("at(" + v[0] + ", " + v[1] + ", 0)", x.at(v[0], v[1], 0), BAD);
            T.due("at(" + v[0] + ", " + v[1] + ", -1)", x.at(v[0], v[1], -1), BAD);
        }
        for (int layer : new int[] {-2, 3, LEAST, MOST}) {
            T.due("at(0, 0, " + layer + ")", x.at(0, 0, layer), BAD);
        }
    }

    private static void atOfTheCornersAlone() {
        T.of("SEEN (layer = -1)");
        TapestryDesk x = Due.desk("1002/0000/3004");
        int[][] corners = {{0, 0, 1}, {0, 3, 2}, {2, 0, 3}, {2, 3, 4}};
        for (int[] v : corners) {
            T.due("at(" + v[0] + ", " + v[1] + ", 0)", x.at(v[0], v[1], 0), v[2]);
            T.due("at(" + v[0] + ", " + v[1] + ", 2)", x.at(v[0], v[1], 2), 0);
            T.due("at(" + v[0] + ", " + v[1] + ", -1)", x.at(v[0], v[1], -1), v[2]);
        }
        x.run(12, 0, 0, 0, 0, 0);
        T.due("not shown", x.at(0, 0, -1), 0);
        T.due("but there", x.at(0, 0, 0), 1);
    }

    private static void isSelectedRefuses() {
        T.of("Whether a KNOT is in THE SELECTION. BAD.");
        TapestryDesk x = new TapestryDesk();
        x.cloth(3, 5);
        int[][] bad = {{-1, 0}, {0, -1}, {3, 0}, {0, 5}, {2, 5}, {3, 4}, {LEAST, 0}, {0, LEAST}, {MOST, 0}, {0, MOST}};
        for (int[] v : bad) {
            T.due("isSelected(" + v[0] + ", " + v[1] + ")", x.isSelected(v[0], v[1]), BAD);
        }
        T.due("all", Due.selection(x), "11111/11111/11111");
        x.run(9, 2, 4, 1, 1, 0);
        T.due("the last alone", Due.selection(x), "00000/00000/00001");
        x.run(9, 0, 0, 1, 1, 0);
        T.due("the first alone", Due.selection(x), "10000/00000/00000");
        Due.chooseNone(x);
        T.due("none", Due.selection(x), "00000/00000/00000");
        T.due("and still no knot there", x.isSelected(3, 0), BAD);
    }

    private static void aboutRefuses() {
        T.of("7 NODES that are there, 8 NODES ever. BAD.");
        TapestryDesk x = new TapestryDesk();
        for (int what : new int[] {-1, 9, LEAST, MOST}) {
            T.due("about(" + what + ")", x.about(what), BAD);
        }
        T.due("about(0)", x.about(0), 8);
        T.due("about(8)", x.about(8), 1);
    }

    private static void aboutOfNone() {
        T.of("2 which LAYER is IN USE, 3 SHOWN ones as bits, 4 KNOTS of THE SELECTION, 5 HANDLES, 6 MACROS");
        TapestryDesk x = new TapestryDesk();
        Due.chooseNone(x);
        for (int layer = 0; layer <= 2; layer++) {
            x.run(12, layer, 0, 0, 0, 0);
        }
        int[] want = {8, 8, 0, 0, 0, 0, 0, 5, 5};
        for (int what = 0; what < want.length; what++) {
            T.due("about(" + what + ")", x.about(what), want[what]);
        }
        for (int layer = 0; layer <= 2; layer++) {
            x.run(12, layer, 1, 0, 0, 0);
            x.run(11, layer, 0, 0, 0, 0);
            T.due("the bit of " + layer, x.about(3), 1 << layer);
            T.due("in use", x.about(2), layer);
            x.run(12, layer, 0, 0, 0, 0);
        }
    }

    private static void aboutOfTheMost() {
        T.of("0 ROWS, 1 COLUMNS, 2 which LAYER is IN USE");
        TapestryDesk x = new TapestryDesk();
        x.cloth(10, 10);
        for (int i = 0; i < 41; i++) {
            x.handle(0);
        }
        for (int i = 0; i < 21; i++) {
            x.macro(0, 0, 0, 0);
        }
        x.run(11, 2, 0, 0, 0, 0);
        for (int i = 0; i < 60; i++) {
            x.run(12, 0, 1, 0, 0, 0);
        }
        int[] want = {10, 10, 2, 7, 100, 40, 20, 60, 60};
        for (int what = 0; what < want.length; what++) {
            T.due("about(" + what + ")", x.about(what), want[what]);
        }
        x.squeeze(1);
        T.due("there", x.about(7), 59);
        T.due("ever", x.about(8), 60);
    }

    private static void usedRefuses() {
        T.of("How many KNOTS are SEEN as a WOOL. BAD.");
        TapestryDesk x = new TapestryDesk();
        for (int wool : new int[] {-1, 10, LEAST, MOST}) {
            T.due("used(" + wool + ")", x.used(wool), BAD);
        }
        T.due("used(0)", x.used(0), 64);
        T.due("used(9)", x.used(9), 0);
    }

    private static void usedOfNoneAndAll() {
        T.of("How many KNOTS are SEEN as a WOOL.");
        TapestryDesk x = new TapestryDesk();
        x.cloth(10, 10);
        x.run(6, 5, 0, 0, 0, 9);
        T.due("used(9) of all", x.used(9), 100);
        T.due("used(0) of none", x.used(0), 0);
        x.run(11, 2, 0, 0, 0, 0);
        x.run(0, 9, 9, 0, 0, 1);
        T.due("used(9) under one", x.used(9), 99);
        T.due("used(1)", x.used(1), 1);
        x.run(12, 0, 0, 0, 0, 0);
        T.due("used(0) when not shown", x.used(0), 99);
    }

    private static void floatsRefuse() {
        T.of("NONE: none such. BAD: n, what.");
        TapestryDesk x = Due.desk("11");
        for (int v : new int[] {-1, LEAST}) {
            T.due("floats(" + v + ", 0, 0)", x.floats(v, 0, 0), BAD);
            T.due("floats(" + v + ", 7, 0)", x.floats(v, 7, 0), BAD);
        }
        for (int what : new int[] {-1, 4, LEAST, MOST}) {
            T.due("floats(0, 0, " + what + ")", x.floats(0, 0, what), BAD);
            T.due("floats(9, 9, " + what + ")", x.floats(9, 9, what), BAD);
        }
    }

    private static String floating(TapestryDesk x, int n, int i) {
        return x.floats(n, i, 0) + " " + x.floats(n, i, 1) + " " + x.floats(n, i, 2) + " " + x.floats(n, i, 3);
    }

    private static void floatsMoreThan() {
        T.of("The i-th row of KNOTS side by side, more than n (0 or more)");
        TapestryDesk x = new TapestryDesk();
        x.cloth(2, 10);
        x.run(2, 0, 0, 0, 9, 9);
        x.run(0, 1, 9, 0, 0, 1);
        T.due("more than 0, the first", floating(x, 0, 0), "0 0 10 9");
        T.due("more than 0, the second", floating(x, 0, 1), "1 9 1 1");
        T.due("more than 0, a third", floating(x, 0, 2), "-9 -9 -9 -9");
        T.due("more than 1", floating(x, 1, 1), "-9 -9 -9 -9");
        T.due("more than 9", floating(x, 9, 0), "0 0 10 9");
        T.due("more than 10", floating(x, 10, 0), "-9 -9 -9 -9");
        T.due("more than the most", floating(x, MOST, 0), "-9 -9 -9 -9");
    }

    private static void floatsOfNoWool() {
        T.of("that are SEEN as one WOOL (not 0)");
        TapestryDesk x = new TapestryDesk();
        x.cloth(1, 5);
        T.due("of nothing", floating(x, 0, 0), "-9 -9 -9 -9");
        Due.spots(x, "11011");
        T.due("a gap parts them", floating(x, 0, 1), "0 3 2 1");
        T.due("the gap is none", floating(x, 0, 2), "-9 -9 -9 -9");
        x.run(11, 1, 0, 0, 0, 0);
        x.run(0, 0, 2, 0, 0, 1);
        T.due("seen over two layers", floating(x, 0, 0), "0 0 5 1");
        x.run(12, 0, 0, 0, 0, 0);
        T.due("what is not shown is not in it", floating(x, 0, 0), "0 2 1 1");
    }

    private static void floatsAsLongAsCanBe() {
        T.of("as long as can be, by rows, from the left: what = 0 row, 1 first column, 2 how many, 3 the WOOL.");
        TapestryDesk x = new TapestryDesk();
        x.cloth(2, 10);
        Due.spots(x, "0000000111/1110000222");
        T.due("up to the end of its row", floating(x, 0, 0), "0 7 3 1");
        T.due("the next row is another", floating(x, 0, 1), "1 0 3 1");
        T.due("the last", floating(x, 0, 2), "1 7 3 2");
        T.due("no part of one", floating(x, 0, 3), "-9 -9 -9 -9");
        TapestryDesk y = Due.desk("1122/2211");
        String[] want = {"0 0 2 1", "0 2 2 2", "1 0 2 2", "1 2 2 1", "-9 -9 -9 -9"};
        for (int i = 0; i < want.length; i++) {
            T.due("of four, " + i, floating(y, 1, i), want[i]);
        }
    }

    private static void floatsNone() {
        T.of("NONE: none such.");
        TapestryDesk x = Due.desk("1");
        T.due("the only one", floating(x, 0, 0), "0 0 1 1");
        for (int i : new int[] {1, MOST, -1, LEAST}) {
            T.due("floats(0, " + i + ")", floating(x, 0, i), "-9 -9 -9 -9");
        }
    }
}
