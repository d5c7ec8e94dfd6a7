/** Promises 1 to 7: a new object, cloth, at, isSelected, about, used, floats. */
public final class ClothTest {
    private static final Due T = new Due();
    private static final int LEAST = Integer.MIN_VALUE, MOST = Integer.MAX_VALUE;

    public static void main(String[] args) {
        newObject();
        cloth();
        clothKeeps();
        at();
        isSelected();
        about();
        used();
        floats();
        T.end();
    }

    private static void newObject() {
        TapestryDesk x = new TapestryDesk();
        int[] want = {8, 8, 0, 7, 64, 0, 0, 1, 1};
        for (int what = 0; what < want.length; what++) {
            T.due("new about(" + what + ")", x.about(what), want[what]);
        }
        String none = "00000000/00000000/00000000/00000000/00000000/00000000/00000000/00000000";
        for (int layer = -1; layer < 3; layer++) {
            T.due("new layer " + layer, Due.picture(x, layer), none);
        }
        T.due("new selection", Due.selection(x), none.replace('0', '1'));
        T.due("new node()", x.node(), 0);
        T.due("new told(0, 0)", x.told(0, 0), TapestryDesk.NONE);
        T.due("new trace()", x.trace(), 0);
        T.due("new digest()", x.digest(), -809150537050146162L);
        T.due("new undo()", x.undo(), TapestryDesk.STATE);
        T.due("new redo()", x.redo(), TapestryDesk.STATE);
        T.due("new call(0)", x.call(0, 0, 0, 0, 0, 0), TapestryDesk.BAD);
        T.due("new play(0)", x.play(0), TapestryDesk.BAD);
    }

    private static void cloth() {
        TapestryDesk x = new TapestryDesk();
        x.run(0, 1, 1, 0, 0, 5);
        int[][] bad = {{0, 5}, {5, 0}, {11, 5}, {5, 11}, {-1, 5}, {5, -1}, {LEAST, 1}, {1, MOST}};
        for (int[] sides : bad) {
            T.due("cloth(" + sides[0] + ", " + sides[1] + ")", x.cloth(sides[0], sides[1]), TapestryDesk.BAD);
        }
        T.due("rows behind bad", x.about(0), 8);
        T.due("at behind bad", x.at(1, 1, 0), 5);
        T.due("node behind bad", x.node(), 1);
        int[][] good = {{1, 1}, {10, 10}, {1, 10}, {10, 1}, {3, 7}};
        for (int[] sides : good) {
            T.due("cloth(" + sides[0] + ", " + sides[1] + ")", x.cloth(sides[0], sides[1]), 1);
            T.due("rows", x.about(0), sides[0]);
            T.due("columns", x.about(1), sides[1]);
            T.due("selected", x.about(4), sides[0] * sides[1]);
            T.due("used(0)", x.used(0), sides[0] * sides[1]);
        }
    }

    private static void clothKeeps() {
        TapestryDesk x = new TapestryDesk();
        x.handle(0);
        x.macro(0, 0, 0, 0);
        x.run(6, 1, 0, 0, 0, 5);
        x.run(11, 2, 0, 0, 0, 0);
        x.run(0, 1, 1, 0, 0, 6);
        x.run(12, 1, 0, 0, 0, 0);
        x.run(9, 0, 0, 1, 1, 0);
        x.run(0, 9, 9, 0, 0, 6);
        long trace = x.trace();
        T.due("failed", x.outcome(0), 1);
        T.due("cloth(4, 4)", x.cloth(4, 4), 1);
        int[] want = {4, 4, 0, 7, 16, 1, 1, 1, 1};
        for (int what = 0; what < want.length; what++) {
            T.due("about(" + what + ") behind cloth()", x.about(what), want[what]);
        }
        T.due("node()", x.node(), 0);
        T.due("go(1)", x.go(1), TapestryDesk.BAD);
        T.due("redo()", x.redo(), TapestryDesk.STATE);
        T.due("told(0, 1)", x.told(0, 1), 0);
        T.due("outcome(0) stays", x.outcome(0), 1);
        T.due("outcome(3) stays", x.outcome(3), 0);
        T.due("trace() stays", x.trace(), trace);
        for (int layer = -1; layer < 3; layer++) {
            T.due("layer " + layer, Due.picture(x, layer), "0000/0000/0000/0000");
        }
        T.due("numbers begin again", x.run(0, 0, 0, 0, 0, 1), 1);
        for (int i = 2; i < 60; i++) {
            T.due("run " + i, x.run(0, 0, 0, 0, 0, 1), i);
        }
        T.due("sixty ever", x.run(0, 0, 0, 0, 0, 1), TapestryDesk.FULL);
        T.due("cloth() when full", x.cloth(8, 8), 1);
        T.due("run() behind it", x.run(0, 7, 7, 0, 0, 1), 1);
    }

    private static void at() {
        TapestryDesk x = new TapestryDesk();
        x.cloth(2, 3);
        Due.spots(x, "100/234");
        x.run(11, 1, 0, 0, 0, 0);
        Due.spots(x, "050/600");
        x.run(11, 2, 0, 0, 0, 0);
        Due.spots(x, "007/080");
        T.due("layer 0", Due.picture(x, 0), "100/234");
        T.due("layer 1", Due.picture(x, 1), "050/600");
        T.due("layer 2", Due.picture(x, 2), "007/080");
        T.due("seen", Due.picture(x, -1), "157/684");
        x.run(12, 2, 0, 0, 0, 0);
        T.due("seen without 2", Due.picture(x, -1), "150/634");
        x.run(12, 1, 0, 0, 0, 0);
        T.due("seen without 2, 1", Due.picture(x, -1), "100/234");
        x.run(12, 0, 0, 0, 0, 0);
        T.due("seen without any", Due.picture(x, -1), "000/000");
        x.run(12, 1, 1, 0, 0, 0);
        T.due("seen 1 alone", Due.picture(x, -1), "050/600");
        T.due("layer 2 not shown", Due.picture(x, 2), "007/080");
        int[][] bad = {{-1, 0, 0}, {0, -1, 0}, {2, 0, 0}, {0, 3, 0}, {0, 0, -2}, {0, 0, 3},
            {LEAST, 0, -1}, {0, MOST, -1}, {0, 0, LEAST}, {0, 0, MOST}};
        for (int[] v : bad) {
            T.due("at(" + v[0] + ", " + v[1] + ", " + v[2] + ")", x.at(v[0], v[1], v[2]), TapestryDesk.BAD);
        }
    }

    private static void isSelected() {
        TapestryDesk x = new TapestryDesk();
        x.cloth(3, 4);
        x.run(9, 1, 1, 2, 2, 0);
        T.due("selection", Due.selection(x), "0000/0110/0110");
        int[][] bad = {{-1, 0}, {0, -1}, {3, 0}, {0, 4}, {LEAST, LEAST}, {MOST, MOST}};
        for (int[] v : bad) {
            T.due("isSelected(" + v[0] + ", " + v[1] + ")", x.isSelected(v[0], v[1]), TapestryDesk.BAD);
        }
    }

    private static void about() {
        TapestryDesk x = new TapestryDesk();
        x.cloth(3, 5);
        x.handle(0);
        x.handle(1);
        x.bind(0, 0, 0);
        x.macro(0, 0, 0, 0);
        x.macro(3, 0, 0, 0);
        x.run(11, 2, 0, 0, 0, 0);
        x.run(12, 1, 0, 0, 0, 0);
        x.run(9, 0, 0, 2, 3, 0);
        x.run(0, 0, 0, 0, 0, 1);
        x.squeeze(2);
        int[] want = {3, 5, 2, 5, 6, 3, 2, 4, 5};
        for (int what = 0; what < want.length; what++) {
            T.due("about(" + what + ")", x.about(what), want[what]);
        }
        for (int what : new int[] {-1, 9, LEAST, MOST}) {
            T.due("about(" + what + ")", x.about(what), TapestryDesk.BAD);
        }
    }

    private static void used() {
        TapestryDesk x = Due.desk("1100/9910");
        x.run(11, 1, 0, 0, 0, 0);
        x.run(0, 0, 0, 0, 0, 4);
        T.due("used(0)", x.used(0), 3);
        T.due("used(1)", x.used(1), 2);
        T.due("used(4)", x.used(4), 1);
        T.due("used(5)", x.used(5), 0);
        T.due("used(9)", x.used(9), 2);
        x.run(12, 1, 0, 0, 0, 0);
        T.due("used(1) without layer 1", x.used(1), 3);
        T.due("used(4) without layer 1", x.used(4), 0);
        for (int wool : new int[] {-1, 10, LEAST, MOST}) {
            T.due("used(" + wool + ")", x.used(wool), TapestryDesk.BAD);
        }
    }

    private static void floats() {
        TapestryDesk x = Due.desk("11022/33344/00005");
        String[] all = {"0 0 2 1", "0 3 2 2", "1 0 3 3", "1 3 2 4", "2 4 1 5", "-9 -9 -9 -9"};
        String[] ofTwo = {"0 0 2 1", "0 3 2 2", "1 0 3 3", "1 3 2 4", "-9 -9 -9 -9"};
        String[] ofThree = {"1 0 3 3", "-9 -9 -9 -9"};
        String[] none = {"-9 -9 -9 -9"};
        String[][] want = {all, ofTwo, ofThree, none};
        for (int n = 0; n < want.length; n++) {
            for (int i = 0; i < want[n].length; i++) {
                T.due("floats(" + n + ", " + i + ")", tellFloat(x, n, i), want[n][i]);
            }
        }
        T.due("floats(0, -1)", tellFloat(x, 0, -1), none[0]);
        T.due("floats(0, least)", tellFloat(x, 0, LEAST), none[0]);
        T.due("floats(0, most)", tellFloat(x, 0, MOST), none[0]);
        T.due("floats(most, 0)", tellFloat(x, MOST, 0), none[0]);
        for (int what : new int[] {-1, 4, LEAST, MOST}) {
            T.due("floats(0, 0, " + what + ")", x.floats(0, 0, what), TapestryDesk.BAD);
            T.due("floats(9, 9, " + what + ")", x.floats(9, 9, what), TapestryDesk.BAD);
        }
        T.due("floats(-1, 0, 0)", x.floats(-1, 0, 0), TapestryDesk.BAD);
        T.due("floats(least, 0, 0)", x.floats(LEAST, 0, 0), TapestryDesk.BAD);
        x.run(11, 2, 0, 0, 0, 0);
        x.run(0, 0, 2, 0, 0, 1);
        T.due("a float over layers", tellFloat(x, 2, 0), "0 0 3 1");
        x.run(12, 0, 0, 0, 0, 0);
        T.due("a float of what is shown", tellFloat(x, 0, 0), "0 2 1 1");
        T.due("no other one", tellFloat(x, 0, 1), none[0]);
        TapestryDesk wide = Due.desk("7777777777/7777777777");
        T.due("a float of a whole row", tellFloat(wide, 9, 1), "1 0 10 7");
        T.due("none longer than that", tellFloat(wide, 10, 0), none[0]);
    }

    private static String tellFloat(TapestryDesk x, int n, int i) {
        return x.floats(n, i, 0) + " " + x.floats(n, i, 1) + " " + x.floats(n, i, 2) + " " + x.floats(n, i, 3);
    }
}
