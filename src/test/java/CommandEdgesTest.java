/** The edges that part 2 of the terms (but for kinds 0 to 3) and promise 8 name: a method for each sentence. */
public final class CommandEdgesTest {
    private static final Due T = new Due();
    private static final int LEAST = Integer.MIN_VALUE, MOST = Integer.MAX_VALUE;
    private static final int BAD = TapestryDesk.BAD, FULL = TapestryDesk.FULL, NONE = TapestryDesk.NONE;
    private static final int OUTSIDE = 1, WOOL = 2, EMPTY = 3, NUMBER = 4;
    /** Behind the kind: numbers that fit on a cloth of 3 by 3, and which of a .. e are told. */
    private static final int[][] FIT = {
        {0, 1, 1, 0, 0, 5}, {1, 1, 1, 0, 0, 5}, {2, 0, 0, 2, 1, 5}, {3, 1, 1, 11, 1, 5}, {4, 1, 0, 0, 0, 0},
        {5, 1, 2, 0, 0, 0}, {6, 1, 0, 0, 0, 5}, {7, 1, 2, 0, 0, 0}, {8, 1, 0, 0, 0, 0}, {9, 0, 1, 2, 1, 0},
        {10, 1, 0, 0, 0, 0}, {11, 1, 0, 0, 0, 0}, {12, 1, 0, 0, 0, 0}};
    private static final String[] TOLD = {"abe", "abe", "abcde", "abcde", "a", "ab", "ae", "ab", "a", "abcde", "a", "a", "ab"};
    private static final int[] TRACES = {1011, 1011, 101011, 1011, 10011, 10011, 10011, 10011, 10011, 101, 101, 101, 101};

    public static void main(String[] args) {
        notLookedAt();
        upUnlessItFails();
        whatStandsOver();
        lineOutside();
        pointOutside();
        boxedEmpty();
        paintWool();
        doingNumber();
        paintsTheLayerInUse();
        paintsTheSelectionAlone();
        theBox();
        mirror();
        mirrorBounds();
        shiftRoundAndRound();
        shiftInTheBox();
        shiftBounds();
        border();
        borderBounds();
        swap();
        swapWools();
        mendFromTheLeft();
        mendNextWool();
        mendOfTheBox();
        mendBounds();
        selectOutside();
        selectWays();
        selectWayBounds();
        pickWool();
        pickOfItsKnots();
        useAndShowOutside();
        useAndShow();
        showBounds();
        failures();
        runBad();
        runFull();
        runFailed();
        T.end();
    }

    private static int[] cmd(int... v) {
        return Due.cmd(v);
    }

    private static void notLookedAt() {
        T.of("each with numbers a, b, c, d, e (others than told are not looked at).");
        for (int kind = 0; kind < FIT.length; kind++) {
            TapestryDesk x = Due.desk("112/021/111");
            Due.run(x, FIT[kind]);
            for (int odd : new int[] {LEAST, -1, 600, MOST}) {
                int[] v = FIT[kind].clone();
                for (int i = 0; i < 5; i++) {
                    v[i + 1] = TOLD[kind].indexOf("abcde".charAt(i)) >= 0 ? v[i + 1] : odd;
                }
                TapestryDesk y = Due.desk("112/021/111");
                T.fits(y, v, TRACES[kind]);
                T.due("digest() behind " + Due.text(v), y.digest(), x.digest());
            }
        }
    }

    private static void upUnlessItFails() {
        T.of("\"up\" goes on with what stands over it, unless it FAILS there; numbers in brackets come to THE TRACE as"
                + " each is asked:");
        T.failsOn(3, 3, cmd(2, 3, 3, 3, 3, 10), OUTSIDE, 100000);
        T.failsOn(3, 3, cmd(2, 3, 3, 2, 2, 10), OUTSIDE, 101000);
        T.failsOn(3, 3, cmd(2, 2, 2, 2, 2, 10), WOOL, 101010);
        T.fitsOn(3, 3, cmd(2, 2, 2, 2, 2, 9), 101011);
        T.failsOn(3, 3, cmd(3, 3, 3, 512, 8, 10), OUTSIDE, 1000);
        T.failsOn(3, 3, cmd(3, 2, 2, 512, 8, 10), WOOL, 1010);
        T.failsOn(3, 3, cmd(3, 2, 2, 512, 8, 9), NUMBER, 1011);
        T.fitsOn(3, 3, cmd(3, 2, 2, 511, 7, 9), 1011);
        T.failsOn(3, 3, cmd(6, 0, 0, 0, 0, 10), WOOL, 10010);
        T.failsOn(3, 3, cmd(6, 0, 0, 0, 0, 9), NUMBER, 10011);
        T.fitsOn(3, 3, cmd(6, 1, 0, 0, 0, 9), 10011);
        T.failsOn(3, 3, cmd(9, 0, 0, 4, 4, 4), OUTSIDE, 100);
        T.failsOn(3, 3, cmd(9, 0, 0, 3, 3, 4), NUMBER, 101);
        T.fitsOn(3, 3, cmd(9, 0, 0, 3, 3, 3), 101);
        T.failsOn(3, 3, cmd(12, 3, 2), OUTSIDE, 100);
        T.failsOn(3, 3, cmd(12, 2, 2), NUMBER, 101);
        T.fitsOn(3, 3, cmd(12, 2, 1), 101);
        TapestryDesk x = new TapestryDesk();
        Due.chooseNone(x);
        T.fails(x, cmd(6, 0, 0, 0, 0, 10), EMPTY, 10000);
    }

    private static void whatStandsOver() {
        T.of("DOING stands over PAINT and LOOK, PAINT over POINT and BOXED, POINT over SPOT, FILL, LINE, STAMP; BOXED over"
                + " MIRROR, SHIFT, BORDER, SWAP, MEND; LOOK over the last four.");
        for (int kind = 0; kind < FIT.length; kind++) {
            T.fitsOn(3, 3, FIT[kind], TRACES[kind]);
        }
    }

    private static void lineOutside() {
        T.of("LINE (100000): OUTSIDE, if (c, d) is no KNOT; up.");
        int[][] none = {{-1, 0}, {0, -1}, {4, 0}, {0, 5}, {4, 5}, {LEAST, 0}, {0, LEAST}, {MOST, 0}, {0, MOST}};
        for (int[] v : none) {
            T.failsOn(4, 5, cmd(2, 0, 0, v[0], v[1], 1), OUTSIDE, 100000);
        }
        T.fitsOn(4, 5, cmd(2, 0, 0, 3, 4, 1), 101011);
        T.fitsOn(4, 5, cmd(2, 3, 4, 0, 0, 1), 101011);
    }

    private static void pointOutside() {
        T.of("POINT (1000): OUTSIDE, if (a, b) is none; up.");
        int[][] none = {{-1, 0}, {0, -1}, {4, 0}, {0, 5}, {4, 5}, {LEAST, 0}, {0, LEAST}, {MOST, 0}, {0, MOST}};
        for (int[] v : none) {
            T.failsOn(4, 5, cmd(0, v[0], v[1], 0, 0, 1), OUTSIDE, 1000);
            T.failsOn(4, 5, cmd(1, v[0], v[1], 0, 0, 1), OUTSIDE, 1000);
            T.failsOn(4, 5, cmd(2, v[0], v[1], 0, 0, 1), OUTSIDE, 101000);
            T.failsOn(4, 5, cmd(3, v[0], v[1], 0, 0, 1), OUTSIDE, 1000);
        }
        for (int[] v : new int[][] {{0, 0}, {0, 4}, {3, 0}, {3, 4}}) {
            T.fitsOn(4, 5, cmd(0, v[0], v[1], 0, 0, 1), 1011);
            T.fitsOn(4, 5, cmd(1, v[0], v[1], 0, 0, 1), 1011);
            T.fitsOn(4, 5, cmd(2, v[0], v[1], 0, 0, 1), 101011);
            T.fitsOn(4, 5, cmd(3, v[0], v[1], 0, 0, 1), 1011);
        }
    }

    private static void boxedEmpty() {
        T.of("BOXED (10000): EMPTY, if THE SELECTION is; up.");
        TapestryDesk x = Due.desk("112/021/111");
        Due.chooseNone(x);
        for (int kind = 4; kind <= 8; kind++) {
            T.fails(x, FIT[kind], EMPTY, 10000);
        }
        x.run(9, 2, 2, 1, 1, 1);
        for (int kind = 4; kind <= 8; kind++) {
            T.fits(x, FIT[kind], 10011);
        }
    }

    private static void paintWool() {
        T.of("PAINT (10): WOOL, if one of its WOOLS is not 0 .. 9; up.");
        for (int wool : new int[] {-1, 10, LEAST, MOST}) {
            T.failsOn(3, 3, cmd(0, 0, 0, 0, 0, wool), WOOL, 1010);
            T.failsOn(3, 3, cmd(1, 0, 0, 0, 0, wool), WOOL, 1010);
            T.failsOn(3, 3, cmd(2, 0, 0, 2, 2, wool), WOOL, 101010);
            T.failsOn(3, 3, cmd(3, 0, 0, 1, 0, wool), WOOL, 1010);
            T.failsOn(3, 3, cmd(6, 1, 0, 0, 0, wool), WOOL, 10010);
            T.failsOn(3, 3, cmd(7, wool, 0), WOOL, 10010);
            T.failsOn(3, 3, cmd(7, 0, wool), WOOL, 10010);
        }
        for (int wool : new int[] {0, 9}) {
            T.fitsOn(3, 3, cmd(0, 0, 0, 0, 0, wool), 1011);
            T.fitsOn(3, 3, cmd(1, 0, 0, 0, 0, wool), 1011);
            T.fitsOn(3, 3, cmd(2, 0, 0, 2, 2, wool), 101011);
            T.fitsOn(3, 3, cmd(3, 0, 0, 1, 0, wool), 1011);
            T.fitsOn(3, 3, cmd(6, 1, 0, 0, 0, wool), 10011);
            T.fitsOn(3, 3, cmd(7, wool, 9 - wool), 10011);
        }
    }

    /** One number right below its bounds, then one right above; {kind, a .. e, trace}. */
    private static void doingNumber() {
        T.of("DOING (1): NUMBER, if one that is told with bounds is not within.");
        int[][] beyond = {{3, 1, 1, -1, 0, 1, 1011}, {3, 1, 1, 512, 0, 1, 1011}, {3, 1, 1, 0, -1, 1, 1011},
            {3, 1, 1, 0, 8, 1, 1011}, {4, -1, 0, 0, 0, 0, 10011}, {4, 2, 0, 0, 0, 0, 10011}, {5, -21, 0, 0, 0, 0, 10011},
            {5, 21, 0, 0, 0, 0, 10011}, {5, 0, -21, 0, 0, 0, 10011}, {5, 0, 21, 0, 0, 0, 10011}, {6, 0, 0, 0, 0, 1, 10011},
            {6, 6, 0, 0, 0, 1, 10011}, {8, 0, 0, 0, 0, 0, 10011}, {8, 10, 0, 0, 0, 0, 10011}, {9, 0, 0, 1, 1, -1, 101},
            {9, 0, 0, 1, 1, 4, 101}, {12, 0, -1, 0, 0, 0, 101}, {12, 0, 2, 0, 0, 0, 101}};
        for (int[] v : beyond) {
            T.failsOn(3, 3, cmd(v[0], v[1], v[2], v[3], v[4], v[5]), NUMBER, v[6]);
        }
    }

    private static void paintsTheLayerInUse() {
        T.of("A PAINT paints KNOTS of THE LAYER IN USE");
        for (int kind = 0; kind <= 8; kind++) {
            for (int layer = 0; layer <= 2; layer++) {
                TapestryDesk x = new TapestryDesk();
                x.cloth(3, 3);
                for (int other = 0; other <= 2; other++) {
                    x.run(11, other, 0, 0, 0, 0);
                    Due.spots(x, "112/021/111");
                }
                x.run(11, layer, 0, 0, 0, 0);
                T.fits(x, FIT[kind], TRACES[kind]);
                for (int other = 0; other <= 2; other++) {
                    boolean same = Due.picture(x, other).equals("112/021/111");
                    T.isTrue("kind " + kind + " with " + layer + " in use, layer " + other, same == (other != layer));
                }
            }
        }
    }

    private static void paintsTheSelectionAlone() {
        T.of("those alone that are in THE SELECTION.");
        for (int kind = 0; kind <= 8; kind++) {
            TapestryDesk x = Due.desk("112/021/111");
            Due.choose(x, "100/000/001");
            Due.run(x, FIT[kind]);
            String behind = Due.picture(x, 0);
            String within = behind.substring(1, behind.length() - 1);
            T.due("not selected, of kind " + kind, within, "12/021/11");
        }
        TapestryDesk x = Due.desk("112/021/111");
        Due.chooseNone(x);
        for (int kind = 0; kind <= 3; kind++) {
            T.fits(x, FIT[kind], TRACES[kind]);
            T.due("nothing is painted", x.outcome(1), 0);
        }
        T.due("nothing selected", Due.picture(x, 0), "112/021/111");
    }

    private static void theBox() {
        T.of("(THE BOX is ITS BOX of THE SELECTION, as each of these begins; what they move is what was there then.)");
        T.done("12", cmd(4, 0), "21");
        T.done("1/2", cmd(4, 1), "2/1");
        T.done("12/34", cmd(5, 1, 1), "43/21");
        T.done("12/21", cmd(7, 1, 2), "21/12");
        TapestryDesk x = Due.desk("1234/5678");
        x.run(9, 0, 0, 2, 2, 0);
        x.run(4, 0, 0, 0, 0, 0);
        x.run(9, 0, 3, 2, 1, 1);
        x.run(4, 0, 0, 0, 0, 0);
        T.due("the box grows with the selection", Due.picture(x, 0), "4332/8776");
        x.run(9, 1, 0, 1, 4, 3);
        x.run(4, 0, 0, 0, 0, 0);
        T.due("and lessens", Due.picture(x, 0), "4332/6778");
        TapestryDesk y = Due.desk("123/456/789");
        y.run(4, 0, 0, 0, 0, 0);
        y.run(9, 0, 0, 2, 2, 0);
        y.run(4, 0, 0, 0, 0, 0);
        T.due("its last column is not that of the one ahead", Due.picture(y, 0), "231/564/987");
        y.run(4, 1, 0, 0, 0, 0);
        T.due("nor its last row", Due.picture(y, 0), "561/234/987");
        y.run(9, 2, 2, 1, 1, 0);
        y.run(6, 1, 0, 0, 0, 9);
        y.run(9, 0, 0, 1, 1, 0);
        y.run(6, 1, 0, 0, 0, 8);
        T.due("nor its first ones", Due.picture(y, 0), "861/234/989");
    }

    private static void mirror() {
        T.of("each KNOT of THE BOX becomes what the one as far from the other end of its row (a = 0), column (a = 1) was.");
        T.done("7", cmd(4, 0), "7");
        T.done("7", cmd(4, 1), "7");
        T.done("123456789", cmd(4, 0), "987654321");
        T.done("1234567890", cmd(4, 0), "0987654321");
        T.done("1234567890", cmd(4, 1), "1234567890");
        T.done("1/2/3/4/5/6/7/8/9/0", cmd(4, 1), "0/9/8/7/6/5/4/3/2/1");
        T.done("1/2/3/4/5/6/7/8/9/0", cmd(4, 0), "1/2/3/4/5/6/7/8/9/0");
        T.done("123/456", cmd(4, 0), "321/654");
        T.done("123/456", cmd(4, 1), "456/123");
    }

    private static void mirrorBounds() {
        T.of("its row (a = 0), column (a = 1)");
        for (int a : new int[] {-1, 2, LEAST, MOST}) {
            T.failsOn(8, 8, cmd(4, a), NUMBER, 10011);
        }
        T.fitsOn(8, 8, cmd(4, 0), 10011);
        T.fitsOn(8, 8, cmd(4, 1), 10011);
    }

    private static String turned(String ring, int right) {
        StringBuilder text = new StringBuilder(ring);
        for (int i = 0; i < right; i++) {
            text.insert(0, text.charAt(text.length() - 1)).setLength(ring.length());
        }
        for (int i = 0; i > right; i--) {
            text.append(text.charAt(0)).deleteCharAt(0);
        }
        return text.toString();
    }

    private static void shiftRoundAndRound() {
        T.of("each becomes what the one a rows above, b columns to the left of it was, round and round in THE BOX");
        for (int by = -20; by <= 20; by++) {
            String behind = turned("1234567", by);
            T.done("1234567", cmd(5, 0, by), behind);
            T.done("1/2/3/4/5/6/7", cmd(5, by, 0), String.join("/", behind.split("")));
            T.done("5", cmd(5, by, -by), "5");
        }
        T.done("123/456/789", cmd(5, 1, -1), "897/231/564");
        T.done("12/34", cmd(5, 20, -20), "12/34");
        T.done("123/456", cmd(5, 20, -20), "312/645");
    }

    private static void shiftInTheBox() {
        T.of("round and round in THE BOX");
        TapestryDesk x = Due.desk("1234/5678/9123");
        Due.choose(x, "0000/0111/0111");
        x.run(5, 20, -20, 0, 0, 0);
        T.due("a box off the corner", Due.picture(x, 0), "1234/5867/9312");
        x = Due.desk("12/34/56/78");
        Due.choose(x, "00/11/11/11");
        x.run(5, 1, 0, 0, 0, 0);
        T.due("a box off the first row", Due.picture(x, 0), "12/78/34/56");
        x = Due.desk("1234/5678");
        Due.choose(x, "0111/0111");
        x.run(5, 0, 1, 0, 0, 0);
        T.due("a box off the first column", Due.picture(x, 0), "1423/5867");
        x = Due.desk("1234/5678/9123");
        Due.choose(x, "0000/0010/0000");
        x.run(5, 19, -19, 0, 0, 0);
        T.due("a box of one knot", Due.picture(x, 0), "1234/5678/9123");
        x = Due.desk("1234/5678/9123");
        Due.choose(x, "1000/0000/0001");
        x.run(5, 1, 1, 0, 0, 0);
        T.due("from knots of the box that are not selected", Due.picture(x, 0), "3234/5678/9127");
    }

    private static void shiftBounds() {
        T.of("(a, b -20 .. 20)");
        for (int v : new int[] {-21, 21, LEAST, MOST}) {
            T.failsOn(8, 8, cmd(5, v, 0), NUMBER, 10011);
            T.failsOn(8, 8, cmd(5, 0, v), NUMBER, 10011);
        }
        for (int v : new int[] {-20, 20, 0}) {
            T.fitsOn(8, 8, cmd(5, v, 0), 10011);
            T.fitsOn(8, 8, cmd(5, 0, v), 10011);
        }
    }

    private static void border() {
        T.of("those in one of the first a, last a rows or columns of THE BOX (a 1 .. 5) become WOOL e.");
        int[] ofTen = {36, 64, 84, 96, 100};
        int[] ofNine = {32, 56, 72, 80, 81};
        for (int a = 1; a <= 5; a++) {
            T.due("a " + a + " of 10 by 10", bordered(10, 10, a), ofTen[a - 1]);
            T.due("a " + a + " of 9 by 9", bordered(9, 9, a), ofNine[a - 1]);
            T.due("a " + a + " of 1 by 1", bordered(1, 1, a), 1);
            T.due("a " + a + " of 1 by 10", bordered(1, 10, a), 10);
            T.due("a " + a + " of 10 by 2", bordered(10, 2, a), 20);
        }
        T.done("000/000/000", cmd(6, 1, 0, 0, 0, 5), "555/505/555");
        T.done("111/111/111", cmd(6, 1, 0, 0, 0, 0), "000/010/000");
        TapestryDesk x = new TapestryDesk();
        x.cloth(4, 5);
        Due.choose(x, "00000/01111/01111/01111");
        x.run(6, 1, 0, 0, 0, 5);
        T.due("of a box off the corner", Due.picture(x, 0), "00000/05555/05005/05555");
    }

    private static int bordered(int rows, int columns, int a) {
        TapestryDesk x = new TapestryDesk();
        x.cloth(rows, columns);
        x.run(6, a, 0, 0, 0, 5);
        return x.used(5);
    }

    private static void borderBounds() {
        T.of("THE BOX (a 1 .. 5)");
        for (int a : new int[] {0, 6, -1, LEAST, MOST}) {
            T.failsOn(10, 10, cmd(6, a, 0, 0, 0, 5), NUMBER, 10011);
        }
        T.fitsOn(10, 10, cmd(6, 1, 0, 0, 0, 5), 10011);
        T.fitsOn(10, 10, cmd(6, 5, 0, 0, 0, 5), 10011);
    }

    private static void swap() {
        T.of("those of WOOL a become WOOL b, those of b a.");
        T.done("0909/9090", cmd(7, 0, 9), "9090/0909");
        T.done("0909/9090", cmd(7, 9, 0), "9090/0909");
        T.done("0123/4567", cmd(7, 8, 9), "0123/4567");
        T.done("0123/4567", cmd(7, 3, 8), "0128/4567");
        T.done("0123/4567", cmd(7, 8, 3), "0128/4567");
        T.done("1123", cmd(7, 1, 1), "1123");
        T.done("0", cmd(7, 0, 0), "0");
        TapestryDesk x = Due.desk("121");
        Due.choose(x, "101");
        x.run(7, 1, 2, 0, 0, 0);
        T.due("in the box, not selected", Due.picture(x, 0), "222");
    }

    private static void swapWools() {
        T.of("WOOL, if one of its WOOLS is not 0 .. 9");
        int[][] bad = {{-1, 1}, {1, -1}, {10, 1}, {1, 10}, {-1, 10}, {10, 10}};
        for (int[] v : bad) {
            T.failsOn(8, 8, cmd(7, v[0], v[1]), WOOL, 10010);
        }
        T.fitsOn(8, 8, cmd(7, 0, 9), 10011);
        T.fitsOn(8, 8, cmd(7, 9, 0), 10011);
    }

    private static void mendFromTheLeft() {
        T.of("in each row of THE BOX, from the left: a KNOT of a WOOL but 0 right behind a KNOTS of THE BOX side by side that"
                + " have it (as they are by then)");
        T.done("0000000000", cmd(8, 1), "0000000000");
        T.done("1111111111", cmd(8, 1), "1212121212");
        T.done("1111111111", cmd(8, 8), "1111111121");
        T.done("1111111111", cmd(8, 9), "1111111112");
        T.done("111111111", cmd(8, 9), "111111111");
        T.done("1011111111", cmd(8, 8), "1011111111");
        T.done("11", cmd(8, 2), "11");
        T.done("111", cmd(8, 2), "112");
        T.done("1122", cmd(8, 1), "1232");
        T.done("1123", cmd(8, 1), "1234");
        T.done("11222", cmd(8, 2), "11223");
        T.done("11122", cmd(8, 2), "11223");
        T.done("101010", cmd(8, 1), "101010");
        T.done("0000000011/1100000000", cmd(8, 2), "0000000011/1100000000");
        T.done("1/1/1", cmd(8, 1), "1/1/1");
    }

    private static void mendNextWool() {
        T.of("becomes the next WOOL (9: 1).");
        for (int wool = 1; wool <= 9; wool++) {
            String two = "" + wool + wool;
            T.done(two, cmd(8, 1), "" + wool + (wool == 9 ? 1 : wool + 1));
        }
        T.done("9991", cmd(8, 1), "9191");
    }

    private static void mendOfTheBox() {
        T.of("right behind a KNOTS of THE BOX side by side");
        mended("11111", "00111", 1, "11121");
        mended("11111", "00111", 2, "11112");
        mended("11111", "00111", 3, "11111");
        mended("11111", "10001", 4, "11112");
        mended("11111", "00001", 1, "11111");
        mended("11111", "10111", 1, "11212");
        mended("111/111/111", "000/011/000", 1, "111/112/111");
    }

    private static void mended(String ahead, String chosen, int a, String want) {
        TapestryDesk x = Due.desk(ahead);
        Due.choose(x, chosen);
        x.run(8, a, 0, 0, 0, 0);
        T.due("mend " + a + " of " + ahead + ", selected " + chosen, Due.picture(x, 0), want);
    }

    private static void mendBounds() {
        T.of("8 MEND (a 1 .. 9)");
        for (int a : new int[] {0, 10, -1, LEAST, MOST}) {
            T.failsOn(8, 8, cmd(8, a), NUMBER, 10011);
        }
        T.fitsOn(8, 8, cmd(8, 1), 10011);
        T.fitsOn(8, 8, cmd(8, 9), 10011);
    }

    private static void selectOutside() {
        T.of("OUTSIDE, if (a, b) is no KNOT, c or d is below 1, or row a + c - 1, column b + d - 1 is beyond");
        int[][] outside = {{-1, 0, 1, 1}, {0, -1, 1, 1}, {4, 0, 1, 1}, {0, 5, 1, 1}, {-1, 0, 2, 1}, {0, -1, 1, 2},
            {0, 0, 0, 1}, {0, 0, 1, 0}, {0, 0, -1, 1}, {0, 0, 1, -1}, {0, 0, 5, 1}, {0, 0, 1, 6}, {3, 0, 2, 1}, {0, 4, 1, 2},
            {1, 1, MOST, 1}, {1, 1, 1, MOST}, {0, 0, LEAST, 1}, {0, 0, 1, LEAST}, {LEAST, 0, 1, 1}, {0, LEAST, 1, 1},
            {MOST, 0, 1, 1}, {0, MOST, 1, 1}, {MOST, 0, MOST, 1}, {0, MOST, 1, MOST}, {LEAST, 0, LEAST, 1}};
        for (int[] v : outside) {
            T.failsOn(4, 5, cmd(9, v[0], v[1], v[2], v[3], 0), OUTSIDE, 100);
        }
        int[][] within = {{0, 0, 1, 1}, {3, 4, 1, 1}, {0, 0, 4, 5}, {3, 0, 1, 5}, {0, 4, 4, 1}, {1, 1, 3, 4}};
        for (int[] v : within) {
            T.fitsOn(4, 5, cmd(9, v[0], v[1], v[2], v[3], 0), 101);
        }
    }

    private static void selected(String ahead, int[] run, String want) {
        TapestryDesk x = new TapestryDesk();
        x.cloth(2, 3);
        if (ahead.indexOf('1') < 0) {
            Due.chooseNone(x);
        } else {
            Due.choose(x, ahead);
        }
        T.due("selected", Due.selection(x), ahead);
        T.fits(x, run, 101);
        T.due(Due.text(run) + " of " + ahead, Due.selection(x), want);
        T.due("no wool is another one", x.outcome(1), 0);
    }

    private static void selectWays() {
        T.of("THE SELECTION becomes these (e = 0), these too (1), without these (2), those of these that were in it (3).");
        String none = "000/000";
        String all = "111/111";
        String[] fromNone = {"000/011", "000/011", none, none};
        String[] fromAll = {"000/011", all, "111/100", "000/011"};
        String[] fromSome = {"000/011", "101/011", "101/000", "000/001"};
        for (int e = 0; e <= 3; e++) {
            selected(none, cmd(9, 1, 1, 1, 2, e), fromNone[e]);
            selected(all, cmd(9, 1, 1, 1, 2, e), fromAll[e]);
            selected("101/001", cmd(9, 1, 1, 1, 2, e), fromSome[e]);
            selected(none, cmd(9, 0, 0, 2, 3, e), e <= 1 ? all : none);
            selected(all, cmd(9, 0, 0, 2, 3, e), e == 2 ? none : all);
        }
    }

    private static void selectWayBounds() {
        T.of("(e = 0), these too (1), without these (2), those of these that were in it (3)");
        for (int e : new int[] {-1, 4, LEAST, MOST}) {
            T.failsOn(4, 5, cmd(9, 0, 0, 1, 1, e), NUMBER, 101);
        }
        T.fitsOn(4, 5, cmd(9, 0, 0, 1, 1, 0), 101);
        T.fitsOn(4, 5, cmd(9, 0, 0, 1, 1, 3), 101);
    }

    private static void pickWool() {
        T.of("10 PICK: LOOK: WOOL, if a is none");
        for (int a : new int[] {-1, 10, LEAST, MOST}) {
            T.failsOn(8, 8, cmd(10, a), WOOL, 100);
        }
        T.fitsOn(8, 8, cmd(10, 1), 101);
        T.fitsOn(8, 8, cmd(10, 9), 101);
        T.fitsOn(8, 8, cmd(10, 0), 101);
    }

    private static void pickOfItsKnots() {
        T.of("THE SELECTION becomes those of its KNOTS that are SEEN as WOOL a.");
        TapestryDesk x = Due.desk("199/091");
        int ahead = x.node();
        x.run(10, 9, 0, 0, 0, 0);
        T.due("those of 9", Due.selection(x), "011/010");
        x.run(10, 9, 0, 0, 0, 0);
        T.due("the same again", Due.selection(x), "011/010");
        T.fits(x, cmd(10, 1), 101);
        T.due("none is left", x.about(4), 0);
        T.fits(x, cmd(10, 9), 101);
        T.due("none of none", x.about(4), 0);
        x.go(ahead);
        x.run(11, 2, 0, 0, 0, 0);
        x.run(0, 0, 1, 0, 0, 1);
        x.run(10, 1, 0, 0, 0, 0);
        T.due("what is seen over another layer", Due.selection(x), "110/001");
        x.go(ahead);
        x.run(12, 0, 0, 0, 0, 0);
        x.run(10, 0, 0, 0, 0, 0);
        T.due("none is seen", x.about(4), 6);
    }

    private static void useAndShowOutside() {
        T.of("11 USE, 12 SHOW: LOOK: OUTSIDE, if there is no LAYER a");
        for (int a : new int[] {-1, 3, LEAST, MOST}) {
            T.failsOn(8, 8, cmd(11, a), OUTSIDE, 100);
            T.failsOn(8, 8, cmd(12, a, 0), OUTSIDE, 100);
            T.failsOn(8, 8, cmd(12, a, 1), OUTSIDE, 100);
        }
        for (int a = 0; a <= 2; a++) {
            T.fitsOn(8, 8, cmd(11, a), 101);
            T.fitsOn(8, 8, cmd(12, a, 0), 101);
            T.fitsOn(8, 8, cmd(12, a, 1), 101);
        }
    }

    private static void useAndShow() {
        T.of("LAYER a is IN USE; is SHOWN, or not (b 1, 0).");
        TapestryDesk x = new TapestryDesk();
        for (int a : new int[] {2, 2, 0, 1}) {
            x.run(11, a, 0, 0, 0, 0);
            T.due("in use", x.about(2), a);
            T.due("all are shown", x.about(3), 7);
        }
        int[][] shows = {{2, 1, 7}, {2, 0, 3}, {2, 0, 3}, {0, 0, 2}, {1, 0, 0}, {1, 0, 0}, {2, 1, 4}, {0, 1, 5}, {0, 1, 5}, {1, 1, 7}};
        for (int[] v : shows) {
            x.run(12, v[0], v[1], 0, 0, 0);
            T.due("shown behind SHOW " + v[0] + ", " + v[1], x.about(3), v[2]);
            T.due("in use stays", x.about(2), 1);
        }
    }

    private static void showBounds() {
        T.of("is SHOWN, or not (b 1, 0)");
        for (int b : new int[] {-1, 2, LEAST, MOST}) {
            T.failsOn(8, 8, cmd(12, 0, b), NUMBER, 101);
        }
    }

    private static void failures() {
        T.of("FAILURES: 1 OUTSIDE, 2 WOOL, 3 EMPTY, 4 NUMBER, 5 LONG.");
        T.failsOn(8, 8, cmd(0, 8, 8, 0, 0, 1), 1, 1000);
        T.failsOn(8, 8, cmd(0, 7, 7, 0, 0, 10), 2, 1010);
        TapestryDesk x = new TapestryDesk();
        Due.chooseNone(x);
        T.fails(x, cmd(4, 0), 3, 10000);
        T.failsOn(8, 8, cmd(4, 2), 4, 10011);
        TapestryDesk y = new TapestryDesk();
        y.macro(1, 9, 0, 0);
        y.macro(1, 9, 0, 0);
        y.macro(1, 9, 0, 0);
        y.nest(1, 0);
        y.part(0, y.handle(11), 0, 0, 0, 0);
        y.nest(2, 1);
        T.due("play(2)", y.play(2), TapestryDesk.FAILED);
        T.due("outcome(0)", y.outcome(0), 5);
    }

    private static void runBad() {
        T.of("A COMMAND of a KIND is RUN: the number of its NODE. BAD; FULL; FAILED.");
        TapestryDesk x = Due.desk("12");
        for (int kind : new int[] {-1, 13, LEAST, MOST}) {
            T.refuses(x, "run(" + kind + ")", () -> x.run(kind, 0, 0, 0, 0, 0), BAD);
        }
        T.due("the least kind", x.run(0, 0, 0, 0, 0, 0), 3);
        T.due("the greatest kind", x.run(12, 0, 0, 0, 0, 0), 4);
    }

    private static void runFull() {
        T.of("FULL (of run(), call(), play(): 60 NODES ever)");
        TapestryDesk x = new TapestryDesk();
        for (int i = 1; i < 60; i++) {
            T.due("run " + i, x.run(0, 0, 0, 0, 0, i % 10), i);
        }
        T.refuses(x, "run when full", () -> x.run(0, 0, 0, 0, 0, 1), FULL);
        T.refuses(x, "run that would fail when full", () -> x.run(0, 8, 0, 0, 0, 1), FULL);
        T.refuses(x, "bad run when full", () -> x.run(13, 0, 0, 0, 0, 1), BAD);
        x.go(0);
        T.refuses(x, "run at the first when full", () -> x.run(0, 0, 0, 0, 0, 1), FULL);
    }

    private static void runFailed() {
        T.of("FAILED is answered for FAILURES.");
        TapestryDesk x = new TapestryDesk();
        for (int i = 1; i < 59; i++) {
            x.run(11, 0, 0, 0, 0, 0);
        }
        for (int i = 0; i < 5; i++) {
            T.fails(x, cmd(0, 8, 0), OUTSIDE, 1000);
        }
        T.due("what fails takes no number", x.about(8), 59);
        T.due("the last number", x.run(11, 0, 0, 0, 0, 0), 59);
        T.due("outcome(3)", x.outcome(3), NONE);
    }
}
