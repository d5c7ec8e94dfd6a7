/** Promises 19 to 26: node, go, undo, redo, told, squeeze, trace, digest. */
public final class TreeTest {
    private static final Due T = new Due();
    private static final int LEAST = Integer.MIN_VALUE, MOST = Integer.MAX_VALUE;

    public static void main(String[] args) {
        go();
        goBringsAll();
        undoAndRedo();
        told();
        toldChanged();
        squeeze();
        squeezeRefused();
        squeezeAndFull();
        trace();
        digest();
        T.end();
    }

    /** Nodes 0 - 1 - 2 - 3, 1 - 4 - 5, 0 - 6; at hand is 6. */
    private static TapestryDesk branches() {
        TapestryDesk x = new TapestryDesk();
        x.cloth(3, 3);
        x.run(0, 0, 0, 0, 0, 1);
        x.run(0, 0, 1, 0, 0, 2);
        x.run(0, 0, 2, 0, 0, 3);
        x.go(1);
        x.run(0, 1, 0, 0, 0, 4);
        x.run(0, 1, 1, 0, 0, 5);
        x.go(0);
        x.run(0, 2, 2, 0, 0, 6);
        return x;
    }

    private static void go() {
        TapestryDesk x = branches();
        T.due("node()", x.node(), 6);
        int[][] goes = {{3, 4}, {5, 4}, {4, 1}, {4, 0}, {2, 2}, {0, 2}, {0, 0}, {5, 3}, {6, 4}, {1, 2}, {3, 2}};
        String[] pictures = {"123/000/000", "100/450/000", "100/400/000", "100/400/000", "120/000/000", "000/000/000",
            "000/000/000", "100/450/000", "000/000/006", "100/000/000", "123/000/000"};
        for (int i = 0; i < goes.length; i++) {
            T.due("go(" + goes[i][0] + ")", x.go(goes[i][0]), goes[i][1]);
            T.due("node()", x.node(), goes[i][0]);
            T.due("cloth of " + goes[i][0], Due.picture(x, 0), pictures[i]);
        }
        for (int node : new int[] {-1, 7, 60, -9, LEAST, MOST}) {
            T.due("go(" + node + ")", x.go(node), TapestryDesk.BAD);
        }
        T.due("node()", x.node(), 3);
        T.due("about(7)", x.about(7), 7);
        T.due("about(8)", x.about(8), 7);
    }

    private static void goBringsAll() {
        TapestryDesk x = new TapestryDesk();
        x.run(11, 2, 0, 0, 0, 0);
        x.run(12, 1, 0, 0, 0, 0);
        x.run(9, 1, 1, 2, 2, 0);
        x.run(6, 5, 0, 0, 0, 7);
        int[][] want = {{0, 7, 64, 0}, {2, 7, 64, 0}, {2, 5, 64, 0}, {2, 5, 4, 0}, {2, 5, 4, 4}};
        for (int node : new int[] {0, 4, 1, 3, 2}) {
            x.go(node);
            T.due("in use", x.about(2), want[node][0]);
            T.due("shown", x.about(3), want[node][1]);
            T.due("selected", x.about(4), want[node][2]);
            T.due("used(7)", x.used(7), want[node][3]);
        }
    }

    private static void undoAndRedo() {
        TapestryDesk x = branches();
        T.due("undo()", x.undo(), 0);
        T.due("undo() of the first", x.undo(), TapestryDesk.STATE);
        T.due("node()", x.node(), 0);
        T.due("nothing", Due.picture(x, 0), "000/000/000");
        T.due("redo() to the latest", x.redo(), 6);
        T.due("its cloth", Due.picture(x, 0), "000/000/006");
        T.due("redo() of none", x.redo(), TapestryDesk.STATE);
        T.due("node()", x.node(), 6);
        x.go(3);
        T.due("undo()", x.undo(), 2);
        T.due("undo()", x.undo(), 1);
        T.due("its cloth", Due.picture(x, 0), "100/000/000");
        T.due("redo()", x.redo(), 4);
        T.due("redo()", x.redo(), 5);
        T.due("its cloth", Due.picture(x, 0), "100/450/000");
        T.due("redo() of none", x.redo(), TapestryDesk.STATE);
        x.go(2);
        x.run(0, 2, 0, 0, 0, 9);
        T.due("node()", x.node(), 7);
        T.due("undo()", x.undo(), 2);
        T.due("redo()", x.redo(), 7);
    }

    private static void told() {
        TapestryDesk x = branches();
        int none = TapestryDesk.NONE;
        int[][] want = {{none, 2, 6, 0, 0}, {0, 2, 4, 1, 1}, {1, 1, 3, 1, 2}, {2, 0, none, 1, 3}, {1, 1, 5, 1, 2},
            {4, 0, none, 1, 3}, {0, 0, none, 1, 1}};
        for (int node = 0; node < want.length; node++) {
            for (int what = 0; what < 5; what++) {
                T.due("told(" + node + ", " + what + ")", x.told(node, what), want[node][what]);
            }
        }
        int[][] bad = {{-1, 0}, {7, 0}, {60, 0}, {LEAST, 0}, {MOST, 0}, {0, -1}, {0, 5}, {6, LEAST}, {6, MOST}, {-9, 1}};
        for (int[] v : bad) {
            T.due("told(" + v[0] + ", " + v[1] + ")", x.told(v[0], v[1]), TapestryDesk.BAD);
        }
    }

    private static void toldChanged() {
        TapestryDesk x = new TapestryDesk();
        int spot = x.bind(x.handle(0), 4, 3);
        x.macro(3, 0, 0, 0);
        x.part(0, spot, 0, 0, 0, 0);
        x.part(0, spot, 0, 1, 0, 0);
        x.play(0);
        x.run(9, 0, 0, 1, 1, 0);
        x.run(6, 1, 0, 0, 0, 3);
        x.run(6, 1, 0, 0, 0, 0);
        int[] want = {0, 2, 0, 0, 1};
        for (int node = 0; node < want.length; node++) {
            T.due("told(" + node + ", 3)", x.told(node, 3), want[node]);
        }
        x.go(0);
        T.due("wherever one is", x.told(1, 3), 2);
    }

    private static void squeeze() {
        TapestryDesk x = branches();
        T.due("squeeze(4)", x.squeeze(4), 5);
        T.due("told(5, 0)", x.told(5, 0), 1);
        T.due("told(5, 3)", x.told(5, 3), 2);
        T.due("told(5, 4)", x.told(5, 4), 2);
        T.due("told(1, 1)", x.told(1, 1), 2);
        T.due("told(1, 2)", x.told(1, 2), 5);
        T.due("told(4, 0)", x.told(4, 0), TapestryDesk.BAD);
        T.due("go(4)", x.go(4), TapestryDesk.BAD);
        T.due("squeeze(4) again", x.squeeze(4), TapestryDesk.BAD);
        T.due("about(7)", x.about(7), 6);
        T.due("about(8)", x.about(8), 7);
        T.due("node()", x.node(), 6);
        T.due("go(5)", x.go(5), 3);
        T.due("its cloth", Due.picture(x, 0), "100/450/000");
        T.due("undo()", x.undo(), 1);
        T.due("squeeze(2)", x.squeeze(2), 3);
        T.due("told(1, 2)", x.told(1, 2), 5);
        T.due("go(3)", x.go(3), 1);
        T.due("told(3, 3)", x.told(3, 3), 2);
        T.due("a new number", x.run(0, 2, 0, 0, 0, 1), 7);
        T.due("under 3", x.told(7, 0), 3);
        T.due("squeeze(3)", x.squeeze(3), 7);
        T.due("under 1", x.told(7, 0), 1);
        T.due("undo() over what is gone", x.undo(), 1);
        T.due("redo()", x.redo(), 7);
    }

    private static void squeezeRefused() {
        TapestryDesk x = branches();
        for (int node : new int[] {-1, 7, 60, LEAST, MOST}) {
            T.due("squeeze(" + node + ")", x.squeeze(node), TapestryDesk.BAD);
        }
        T.due("the first, which has two", x.squeeze(0), TapestryDesk.STATE);
        T.due("one that has two", x.squeeze(1), TapestryDesk.STATE);
        T.due("one that has none", x.squeeze(3), TapestryDesk.STATE);
        T.due("one that has none, at hand", x.squeeze(6), TapestryDesk.STATE);
        x.go(2);
        T.due("one at hand", x.squeeze(2), TapestryDesk.STATE);
        x.go(3);
        T.due("and then not", x.squeeze(2), 3);
        TapestryDesk y = new TapestryDesk();
        y.run(0, 0, 0, 0, 0, 1);
        T.due("the first, which has one", y.squeeze(0), TapestryDesk.STATE);
        T.due("about(7)", y.about(7), 2);
    }

    private static void squeezeAndFull() {
        TapestryDesk x = new TapestryDesk();
        for (int i = 1; i < 60; i++) {
            x.run(0, 0, 0, 0, 0, i % 10);
        }
        for (int i = 1; i < 59; i++) {
            T.due("squeeze(" + i + ")", x.squeeze(i), i + 1);
        }
        T.due("about(7)", x.about(7), 2);
        T.due("about(8)", x.about(8), 60);
        T.due("still full", x.run(0, 0, 0, 0, 0, 1), TapestryDesk.FULL);
        T.due("told(59, 0)", x.told(59, 0), 0);
        T.due("told(59, 4)", x.told(59, 4), 1);
        T.due("go(0)", x.go(0), 1);
        T.due("redo()", x.redo(), 59);
        T.due("at(0, 0, 0)", x.at(0, 0, 0), 9);
    }

    private static void trace() {
        TapestryDesk x = new TapestryDesk();
        long[] ofKinds = {1011, 1011, 101011, 1011, 10011, 10011, 10011, 10011, 10011, 101, 101, 101, 101};
        long sum = 0;
        for (int kind = 0; kind < ofKinds.length; kind++) {
            x.run(kind, 1, 1, 1, 1, 1);
            T.due("run(" + kind + ") done", x.outcome(0), 0);
            sum += ofKinds[kind];
            T.due("trace() behind run(" + kind + ")", x.trace(), sum);
        }
        x.undo();
        x.redo();
        x.go(0);
        x.squeeze(1);
        x.handle(0);
        x.macro(1, 5, 0, 0);
        x.part(0, 0, 0, 0, 0, 0);
        x.cloth(4, 4);
        T.due("others bring nothing", x.trace(), sum);
        x.play(0);
        T.due("five spots", x.trace(), sum + 5 * 1011);
        x.call(0, 4, 4, 0, 0, 0);
        T.due("what failed, too", x.trace(), sum + 5 * 1011 + 1000);
    }

    private static long expected(TapestryDesk x) {
        long h = 7;
        for (int r = 0; r < x.about(0); r++) {
            for (int c = 0; c < x.about(1); c++) {
                for (int layer = 0; layer < 3; layer++) {
                    h = h * 31 + x.at(r, c, layer);
                }
                h = h * 31 + x.isSelected(r, c);
            }
        }
        return (h * 31 + x.about(2)) * 31 + x.about(3);
    }

    private static void digest() {
        TapestryDesk x = new TapestryDesk();
        x.cloth(1, 1);
        // (((7 * 31 ^ 3) * 31 + 1) * 31 + 0) * 31 + 7
        T.due("digest() of one knot", x.digest(), ((7L * 923521 + 1) * 31) * 31 + 7);
        x.run(0, 0, 0, 0, 0, 9);
        x.run(11, 2, 0, 0, 0, 0);
        x.run(0, 0, 0, 0, 0, 4);
        x.run(12, 0, 0, 0, 0, 0);
        x.run(9, 0, 0, 1, 1, 2);
        long h = 7 * 31 + 9;
        h = h * 31 * 31 + 4;
        h = h * 31;
        h = h * 31 + 2;
        T.due("digest() of all", x.digest(), h * 31 + 6);
        x.cloth(7, 10);
        x.run(2, 0, 0, 6, 9, 3);
        x.run(9, 2, 3, 4, 5, 2);
        x.run(11, 1, 0, 0, 0, 0);
        x.run(1, 0, 9, 0, 0, 8);
        T.due("digest() of a greater one", x.digest(), expected(x));
    }
}
