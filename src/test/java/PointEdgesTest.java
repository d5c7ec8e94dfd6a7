/** The edges that part 2 of the terms names of SPOT, FILL, LINE and STAMP: a method for each sentence. */
public final class PointEdgesTest {
    private static final Due T = new Due();
    private static final int LEAST = Integer.MIN_VALUE, MOST = Integer.MAX_VALUE;
    private static final int NUMBER = 4;

    public static void main(String[] args) {
        spot();
        fillItself();
        fillFourNeighbours();
        fillSameWool();
        fillInTheLayerInUse();
        fillInTheSelection();
        fillTheMost();
        lineOfOneKnot();
        lineStraight();
        lineRoundedDown();
        lineTheLongest();
        stampBits();
        stampTurns();
        stampIfThereIsOne();
        stampBounds();
        T.end();
    }

    private static int[] cmd(int... v) {
        return Due.cmd(v);
    }

    private static void spot() {
        T.of("0 SPOT: (a, b) becomes WOOL e.");
        T.done("0", cmd(0, 0, 0, 0, 0, 9), "9");
        T.done("9", cmd(0, 0, 0, 0, 0, 0), "0");
        T.done("111/111", cmd(0, 0, 0, 0, 0, 2), "211/111");
        T.done("111/111", cmd(0, 0, 2, 0, 0, 2), "112/111");
        T.done("111/111", cmd(0, 1, 0, 0, 0, 2), "111/211");
        T.done("111/111", cmd(0, 1, 2, 0, 0, 2), "111/112");
        TapestryDesk x = new TapestryDesk();
        x.cloth(10, 10);
        x.run(0, 9, 9, 0, 0, 4);
        T.due("the last knot of the greatest cloth", x.at(9, 9, 0), 4);
        T.due("it alone", x.used(4), 1);
    }

    private static void fillItself() {
        T.of("1 FILL: what is reached from (a, b), itself too");
        T.done("0", cmd(1, 0, 0, 0, 0, 9), "9");
        T.done("121/212/121", cmd(1, 1, 1, 0, 0, 5), "121/252/121");
        T.done("111/121/111", cmd(1, 1, 1, 0, 0, 5), "111/151/111");
        T.done("111/121/111", cmd(1, 1, 1, 0, 0, 1), "111/111/111");
        T.done("111/121/111", cmd(1, 1, 1, 0, 0, 0), "111/101/111");
    }

    private static void fillFourNeighbours() {
        T.of("over neighbours (four) of the same WOOL");
        T.done("10/01", cmd(1, 0, 0, 0, 0, 5), "50/01");
        T.done("111/101/110", cmd(1, 2, 0, 0, 0, 5), "555/505/550");
        T.done("010/111/010", cmd(1, 0, 1, 0, 0, 5), "050/555/050");
        // A row's end and the next row's beginning are no neighbours, nor are the ends of a row or column.
        T.done("0000000001/1000000000", cmd(1, 0, 9, 0, 0, 5), "0000000005/1000000000");
        T.done("0000000001/1000000000", cmd(1, 1, 0, 0, 0, 5), "0000000001/5000000000");
        T.done("101", cmd(1, 0, 0, 0, 0, 5), "501");
        T.done("101", cmd(1, 0, 2, 0, 0, 5), "105");
        T.done("1/0/1", cmd(1, 0, 0, 0, 0, 5), "5/0/1");
        T.done("1/0/1", cmd(1, 2, 0, 0, 0, 5), "1/0/5");
        // Each of the four is one.
        T.done("11", cmd(1, 0, 0, 0, 0, 5), "55");
        T.done("11", cmd(1, 0, 1, 0, 0, 5), "55");
        T.done("1/1", cmd(1, 0, 0, 0, 0, 5), "5/5");
        T.done("1/1", cmd(1, 1, 0, 0, 0, 5), "5/5");
    }

    private static void fillSameWool() {
        T.of("of the same WOOL");
        T.done("1121", cmd(1, 0, 0, 0, 0, 5), "5521");
        T.done("1121", cmd(1, 0, 0, 0, 0, 2), "2221");
        TapestryDesk x = Due.desk("1121");
        T.fits(x, cmd(1, 0, 0, 0, 0, 1), 1011);
        T.due("the wool that it has", x.outcome(1), 0);
        T.due("and all stays", Due.picture(x, 0), "1121");
    }

    private static void fillInTheLayerInUse() {
        T.of("in THE LAYER IN USE, all of it in THE SELECTION, becomes WOOL e.");
        TapestryDesk x = Due.desk("111");
        x.run(11, 2, 0, 0, 0, 0);
        x.run(0, 0, 1, 0, 0, 4);
        x.run(1, 0, 0, 0, 0, 5);
        T.due("another wool of the layer in use stops it", Due.picture(x, 2), "540");
        T.due("the other layer stays", Due.picture(x, 0), "111");
        x.run(11, 0, 0, 0, 0, 0);
        x.run(1, 0, 0, 0, 0, 6);
        T.due("what is seen over it does not", Due.picture(x, 0), "666");
    }

    private static void fillInTheSelection() {
        T.of("all of it in THE SELECTION");
        TapestryDesk x = new TapestryDesk();
        x.cloth(3, 3);
        Due.choose(x, "111/001/111");
        x.run(1, 0, 0, 0, 0, 5);
        T.due("round what is not selected", Due.picture(x, 0), "555/005/555");
        Due.choose(x, "101/101/101");
        x.run(1, 0, 0, 0, 0, 6);
        T.due("not over what is not selected", Due.picture(x, 0), "655/005/555");
        T.fits(x, cmd(1, 1, 1, 0, 0, 7), 1011);
        T.due("from a knot that is not selected", x.outcome(1), 0);
        Due.chooseNone(x);
        T.fits(x, cmd(1, 0, 0, 0, 0, 7), 1011);
        T.due("of an empty selection", x.outcome(1), 0);
    }

    private static void fillTheMost() {
        T.of("what is reached from (a, b), itself too, over neighbours");
        for (int[] from : new int[][] {{0, 0}, {9, 9}, {4, 5}}) {
            TapestryDesk x = new TapestryDesk();
            x.cloth(10, 10);
            x.run(1, from[0], from[1], 0, 0, 8);
            T.due("all of the greatest cloth", x.outcome(1), 100);
            T.due("used(8)", x.used(8), 100);
        }
        // Walls in every other row, open at ends by turns: one long way from the first to the last row.
        TapestryDesk x = new TapestryDesk();
        x.cloth(9, 10);
        for (int r = 1; r < 9; r += 2) {
            int open = r % 4 == 1 ? 1 : 0;
            x.run(2, r, 1 - open, r, 9 - open, 3);
        }
        x.run(1, 0, 0, 0, 0, 8);
        T.due("a long way", x.used(8), 54);
        T.due("walls", x.used(3), 36);
    }

    private static void lineOfOneKnot() {
        T.of("becomes WOOL e (n = 0: (a, b)).");
        T.done("0", cmd(2, 0, 0, 0, 0, 5), "5");
        T.done("000/000", cmd(2, 1, 2, 1, 2, 5), "000/005");
        T.done("111/111", cmd(2, 0, 0, 0, 0, 0), "011/111");
    }

    private static void lineStraight() {
        T.of("with n the greater of the sizes of c - a and d - b, for k = 0 .. n");
        T.done("000/000/000", cmd(2, 0, 0, 0, 2, 5), "555/000/000");
        T.done("000/000/000", cmd(2, 2, 2, 2, 0, 5), "000/000/555");
        T.done("000/000/000", cmd(2, 0, 1, 2, 1, 5), "050/050/050");
        T.done("000/000/000", cmd(2, 2, 0, 0, 0, 5), "500/500/500");
        T.done("000/000/000", cmd(2, 0, 0, 2, 2, 5), "500/050/005");
        T.done("000/000/000", cmd(2, 2, 0, 0, 2, 5), "005/050/500");
        T.done("000/000/000", cmd(2, 0, 0, 1, 1, 5), "500/050/000");
    }

    /** Half a row counts as a whole one further down, half a column as one further right, either way. */
    private static void lineRoundedDown() {
        T.of("the KNOT of row a + (2 k (c - a) + n) / 2 n, rounded down, and column b likewise");
        T.done("000/000", cmd(2, 0, 0, 1, 2, 5), "500/055");
        T.done("000/000", cmd(2, 1, 2, 0, 0, 5), "500/055");
        T.done("000/000", cmd(2, 1, 0, 0, 2, 5), "005/550");
        T.done("000/000", cmd(2, 0, 2, 1, 0, 5), "005/550");
        T.done("00/00/00", cmd(2, 0, 0, 2, 1, 5), "50/05/05");
        T.done("00/00/00", cmd(2, 2, 1, 0, 0, 5), "50/05/05");
        T.done("00/00/00", cmd(2, 0, 1, 2, 0, 5), "05/05/50");
        T.done("0000/0000", cmd(2, 1, 3, 0, 0, 5), "5500/0055");
        T.done("00000/00000", cmd(2, 1, 0, 0, 4, 5), "00055/55500");
    }

    private static void lineTheLongest() {
        T.of("for k = 0 .. n the KNOT of row");
        int[][] ends = {{0, 0, 9, 9}, {9, 9, 0, 0}, {0, 9, 9, 0}, {9, 0, 0, 9}, {0, 0, 0, 9}, {9, 9, 0, 9}, {0, 0, 9, 4}};
        for (int[] v : ends) {
            TapestryDesk x = new TapestryDesk();
            x.cloth(10, 10);
            x.run(2, v[0], v[1], v[2], v[3], 5);
            T.due("ten knots", x.outcome(1), 10);
            T.due("its first", x.at(v[0], v[1], 0), 5);
            T.due("its last", x.at(v[2], v[3], 0), 5);
        }
    }

    private static void stampBits() {
        T.of("3 STAMP: for each bit 3 i + j (i, j 0 .. 2) of c (0 .. 511)");
        String[] want = {"100/000/000", "010/000/000", "001/000/000", "000/100/000", "000/010/000", "000/001/000",
            "000/000/100", "000/000/010", "000/000/001"};
        for (int bit = 0; bit < want.length; bit++) {
            T.done("000/000/000", cmd(3, 1, 1, 1 << bit, 0, 1), want[bit]);
        }
        T.done("000/000/000", cmd(3, 1, 1, 0, 0, 1), "000/000/000");
        T.done("000/000/000", cmd(3, 1, 1, 511, 0, 1), "111/111/111");
        T.done("222/222/222", cmd(3, 1, 1, 257, 0, 0), "022/222/220");
    }

    private static void stampTurns() {
        T.of("i, j become j, 2 - i, d modulo 4 times (d 0 .. 7), then, from 4 on, j becomes 2 - j");
        String[] corner = {"100/000/000", "001/000/000", "000/000/001", "000/000/100",
            "001/000/000", "100/000/000", "000/000/100", "000/000/001"};
        String[] side = {"010/000/000", "000/001/000", "000/000/010", "000/100/000",
            "010/000/000", "000/100/000", "000/000/010", "000/001/000"};
        String[] hook = {"110/000/000", "001/001/000", "000/000/011", "000/100/100",
            "011/000/000", "100/100/000", "000/000/110", "000/001/001"};
        for (int d = 0; d <= 7; d++) {
            T.done("000/000/000", cmd(3, 1, 1, 1, d, 1), corner[d]);
            T.done("000/000/000", cmd(3, 1, 1, 2, d, 1), side[d]);
            T.done("000/000/000", cmd(3, 1, 1, 3, d, 1), hook[d]);
            T.done("000/000/000", cmd(3, 1, 1, 16, d, 1), "000/010/000");
        }
    }

    private static void stampIfThereIsOne() {
        T.of("the KNOT (a - 1 + i, b - 1 + j), if there is one, becomes WOOL e.");
        T.done("0", cmd(3, 0, 0, 511, 0, 1), "1");
        T.done("0", cmd(3, 0, 0, 511 - 16, 0, 1), "0");
        String none = "0000000000/0000000000/0000000000";
        T.done(none, cmd(3, 0, 0, 511, 0, 1), "1100000000/1100000000/0000000000");
        T.done(none, cmd(3, 0, 9, 511, 0, 1), "0000000011/0000000011/0000000000");
        T.done(none, cmd(3, 2, 0, 511, 0, 1), "0000000000/1100000000/1100000000");
        T.done(none, cmd(3, 2, 9, 511, 0, 1), "0000000000/0000000011/0000000011");
        T.done(none, cmd(3, 1, 0, 73, 0, 1), none);
        T.done(none, cmd(3, 1, 9, 292, 0, 1), none);
        TapestryDesk x = new TapestryDesk();
        x.cloth(10, 10);
        x.run(3, 9, 9, 511, 7, 1);
        T.due("at the last knot of the greatest cloth", x.used(1), 4);
        // Off a smaller cloth there is no knot, though a greater one has it.
        x.cloth(2, 2);
        x.run(3, 1, 1, 511, 0, 1);
        T.due("all of a small cloth", Due.picture(x, 0), "11/11");
        T.due("outcome(1)", x.outcome(1), 4);
    }

    private static void stampBounds() {
        T.of("of c (0 .. 511)");
        for (int c : new int[] {-1, 512, LEAST, MOST}) {
            T.failsOn(3, 3, cmd(3, 1, 1, c, 0, 1), NUMBER, 1011);
        }
        T.fitsOn(3, 3, cmd(3, 1, 1, 0, 0, 1), 1011);
        T.fitsOn(3, 3, cmd(3, 1, 1, 511, 0, 1), 1011);
        T.of("d modulo 4 times (d 0 .. 7)");
        for (int d : new int[] {-1, 8, LEAST, MOST}) {
            T.failsOn(3, 3, cmd(3, 1, 1, 1, d, 1), NUMBER, 1011);
        }
        T.fitsOn(3, 3, cmd(3, 1, 1, 1, 0, 1), 1011);
        T.fitsOn(3, 3, cmd(3, 1, 1, 1, 7, 1), 1011);
    }
}
