/** Promise 8: commands that are run, of every kind: what they do, when they fail, and in which order. */
public final class CommandTest {
    private static final Due T = new Due();
    private static final int LEAST = Integer.MIN_VALUE, MOST = Integer.MAX_VALUE;
    private static final int OUTSIDE = 1, WOOL = 2, EMPTY = 3, NUMBER = 4;

    public static void main(String[] args) {
        refused();
        spot();
        fill();
        line();
        stamp();
        mirror();
        shift();
        border();
        swap();
        mend();
        select();
        pick();
        useAndShow();
        paintsTheSelectionAlone();
        failsPoints();
        failsBoxed();
        failsLooks();
        failureLeavesAll();
        T.end();
    }

    private static int[] cmd(int... v) {
        return Due.cmd(v);
    }

    private static void refused() {
        TapestryDesk x = new TapestryDesk();
        for (int kind : new int[] {-1, 13, LEAST, MOST}) {
            T.due("run(" + kind + ")", x.run(kind, 0, 0, 0, 0, 0), TapestryDesk.BAD);
        }
        T.due("trace() behind BAD", x.trace(), 0);
        T.due("outcome(2) behind BAD", x.outcome(2), 0);
        for (int i = 1; i < 60; i++) {
            T.due("run " + i, x.run(12, 0, 1, 0, 0, 0), i);
        }
        long trace = x.trace();
        T.due("run when full", x.run(0, 0, 0, 0, 0, 1), TapestryDesk.FULL);
        T.due("run that would fail when full", x.run(0, 9, 9, 0, 0, 1), TapestryDesk.FULL);
        T.due("bad run when full", x.run(13, 0, 0, 0, 0, 1), TapestryDesk.BAD);
        T.due("trace() behind FULL", x.trace(), trace);
        T.due("outcome(0) behind FULL", x.outcome(0), 0);
        T.due("at behind FULL", x.at(0, 0, 0), 0);
        T.due("node() behind FULL", x.node(), 59);
        T.due("about(7)", x.about(7), 60);
    }

    private static void spot() {
        T.done("000/000", cmd(0, 1, 2, 77, -77, 9), "000/009");
        T.done("111/111", cmd(0, 0, 0, 0, 0, 0), "011/111");
        T.done("5", cmd(0, 0, 0, 0, 0, 5), "5");
    }

    private static void fill() {
        T.done("1101/0111/1010", cmd(1, 0, 0, 77, 77, 2), "2202/0222/1020");
        T.done("1101/0111/1010", cmd(1, 2, 0, 0, 0, 2), "1101/0111/2010");
        T.done("1101/0111/1010", cmd(1, 2, 3, 0, 0, 9), "1101/0111/1019");
        T.done("1101/0111/1010", cmd(1, 0, 0, 0, 0, 1), "1101/0111/1010");
        T.done("000/010/000", cmd(1, 2, 2, 0, 0, 3), "333/313/333");
        T.done("111/111", cmd(1, 1, 1, 0, 0, 0), "000/000");
        TapestryDesk x = Due.desk("111/111/111");
        x.run(9, 1, 0, 1, 3, 2);
        x.run(1, 0, 0, 0, 0, 4);
        T.due("fill does not go over knots that are not selected", Due.picture(x, 0), "444/111/111");
        int node = x.node();
        T.due("fill from a knot that is not selected", x.run(1, 1, 1, 0, 0, 5), node + 1);
        T.due("nothing of it", Due.picture(x, 0), "444/111/111");
        x.run(11, 1, 0, 0, 0, 0);
        x.run(1, 2, 0, 0, 0, 6);
        T.due("fill of the layer in use", Due.picture(x, 1), "000/000/666");
        TapestryDesk big = new TapestryDesk();
        big.cloth(10, 10);
        big.run(1, 9, 0, 0, 0, 8);
        T.due("fill of all", big.used(8), 100);
    }

    private static void line() {
        String none = "0000/0000/0000";
        T.done(none, cmd(2, 0, 0, 0, 3, 1), "1111/0000/0000");
        T.done(none, cmd(2, 2, 3, 0, 3, 1), "0001/0001/0001");
        T.done(none, cmd(2, 1, 1, 1, 1, 7), "0000/0700/0000");
        T.done(none, cmd(2, 0, 0, 2, 3, 1), "1000/0110/0001");
        T.done(none, cmd(2, 2, 3, 0, 0, 1), "1000/0110/0001");
        T.done(none, cmd(2, 0, 3, 2, 0, 1), "0001/0110/1000");
        T.done("000000/000000/000000", cmd(2, 0, 0, 1, 4, 2), "220000/002220/000000");
        T.done("000000/000000/000000", cmd(2, 1, 0, 0, 4, 2), "000220/222000/000000");
        T.done("0000/0000/0000/0000/0000", cmd(2, 4, 3, 0, 2, 2), "0020/0020/0002/0002/0002");
        T.done("1111", cmd(2, 0, 1, 0, 2, 0), "1001");
    }

    private static void stamp() {
        String none = "00000/00000/00000/00000/00000";
        int hook = 1 | 2 | 4 | 8;
        String[] turned = {
            "00000/01110/01000/00000/00000", "00000/00110/00010/00010/00000",
            "00000/00000/00010/01110/00000", "00000/01000/01000/01100/00000",
            "00000/01110/00010/00000/00000", "00000/01100/01000/01000/00000",
            "00000/00000/01000/01110/00000", "00000/00010/00010/00110/00000"};
        for (int d = 0; d < turned.length; d++) {
            T.done(none, cmd(3, 2, 2, hook, d, 1), turned[d]);
        }
        T.done(none, cmd(3, 0, 0, 511, 0, 3), "33000/33000/00000/00000/00000");
        T.done(none, cmd(3, 4, 4, 511, 7, 3), "00000/00000/00000/00033/00033");
        T.done(none, cmd(3, 2, 2, 0, 7, 3), none);
        T.done(none, cmd(3, 2, 2, 256, 0, 3), "00000/00000/00000/00030/00000");
        T.done(none, cmd(3, 2, 2, 32, 0, 3), "00000/00000/00030/00000/00000");
    }

    private static void mirror() {
        T.done("123/456", cmd(4, 0, 77, 77, 77, 77), "321/654");
        T.done("123/456", cmd(4, 1), "456/123");
        T.done("1234", cmd(4, 0), "4321");
        T.done("1/2/3", cmd(4, 1), "3/2/1");
        TapestryDesk x = Due.desk("1234/5678");
        x.run(9, 0, 1, 2, 3, 0);
        x.run(9, 0, 2, 1, 1, 2);
        x.run(4, 0, 0, 0, 0, 0);
        T.due("mirror in the box", Due.picture(x, 0), "1432/5876");
        x = Due.desk("1234/5678");
        x.run(9, 0, 0, 1, 1, 0);
        x.run(9, 1, 2, 1, 1, 1);
        x.run(4, 1, 0, 0, 0, 0);
        T.due("mirror takes from the box what is not selected", Due.picture(x, 0), "5234/5638");
    }

    private static void shift() {
        T.done("123/456/789", cmd(5, 1, 0, 77, 77, 77), "789/123/456");
        T.done("123/456/789", cmd(5, 0, 1), "312/645/978");
        T.done("123/456/789", cmd(5, -1, -1), "564/897/231");
        T.done("123/456/789", cmd(5, 20, -20), "645/978/312");
        T.done("123/456/789", cmd(5, -20, 20), "897/231/564");
        T.done("123/456/789", cmd(5, 3, -6), "123/456/789");
        TapestryDesk x = Due.desk("1234/5678");
        x.run(9, 0, 1, 2, 3, 0);
        x.run(9, 1, 2, 1, 1, 2);
        x.run(5, 1, 1, 0, 0, 0);
        T.due("shift in the box", Due.picture(x, 0), "1867/5473");
        x = Due.desk("12/34/56/78");
        x.run(9, 1, 0, 3, 2, 0);
        x.run(5, 1, 0, 0, 0, 0);
        T.due("shift in a lower box", Due.picture(x, 0), "12/78/34/56");
        x.run(9, 2, 0, 1, 2, 0);
        x.run(5, 7, 1, 0, 0, 0);
        T.due("shift in a box of one row", Due.picture(x, 0), "12/78/43/56");
    }

    private static void border() {
        String none = "000000/000000/000000/000000/000000";
        T.done(none, cmd(6, 1, 77, 77, 77, 4), "444444/400004/400004/400004/444444");
        T.done(none, cmd(6, 2, 0, 0, 0, 4), "444444/444444/440044/444444/444444");
        T.done(none, cmd(6, 3, 0, 0, 0, 4), "444444/444444/444444/444444/444444");
        T.done(none, cmd(6, 5, 0, 0, 0, 4), "444444/444444/444444/444444/444444");
        T.done("111/111/111", cmd(6, 1, 0, 0, 0, 0), "000/010/000");
        TapestryDesk x = new TapestryDesk();
        x.cloth(5, 6);
        x.run(9, 1, 1, 3, 4, 0);
        x.run(9, 1, 1, 1, 1, 2);
        x.run(6, 1, 0, 0, 0, 5);
        T.due("border of the box", Due.picture(x, 0), "000000/005550/050050/055550/000000");
        x.run(9, 0, 0, 1, 2, 0);
        x.run(6, 1, 0, 0, 0, 6);
        T.due("border of a box that is smaller than the one ahead", Due.picture(x, 0),
                "660000/005550/050050/055550/000000");
    }

    private static void swap() {
        T.done("1203/2130", cmd(7, 1, 2, 77, 77, 77), "2103/1230");
        T.done("1203/2130", cmd(7, 2, 1), "2103/1230");
        T.done("1203/2130", cmd(7, 0, 3), "1230/2103");
        T.done("1203/2130", cmd(7, 9, 1), "9203/2930");
        T.done("1203/2130", cmd(7, 2, 2), "1203/2130");
        TapestryDesk x = Due.desk("1212/1212");
        x.run(9, 0, 1, 2, 2, 0);
        x.run(7, 1, 2, 0, 0, 0);
        T.due("swap in the selection", Due.picture(x, 0), "1122/1122");
    }

    private static void mend() {
        T.done("1111111", cmd(8, 1, 77, 77, 77, 77), "1212121");
        T.done("1111111", cmd(8, 2), "1121121");
        T.done("1111111", cmd(8, 3), "1112111");
        T.done("9999/0000", cmd(8, 2), "9919/0000");
        T.done("1112222", cmd(8, 2), "1122322");
        T.done("1111111111", cmd(8, 9), "1111111112");
        T.done("111111111", cmd(8, 9), "111111111");
        T.done("0111/1110", cmd(8, 2), "0112/1120");
        T.done("11/11/11", cmd(8, 2), "11/11/11");
        TapestryDesk x = Due.desk("111111");
        x.run(9, 0, 1, 1, 5, 0);
        x.run(8, 2, 0, 0, 0, 0);
        T.due("mend begins with the box", Due.picture(x, 0), "111211");
        x = Due.desk("111111");
        x.run(9, 0, 2, 1, 1, 2);
        x.run(8, 2, 0, 0, 0, 0);
        T.due("mend leaves and counts what is not selected", Due.picture(x, 0), "111211");
    }

    private static void select() {
        TapestryDesk x = new TapestryDesk();
        x.cloth(3, 4);
        T.fits(x, cmd(9, 0, 0, 2, 2, 0), 101);
        T.due("these", Due.selection(x), "1100/1100/0000");
        T.fits(x, cmd(9, 1, 1, 2, 3, 1), 101);
        T.due("these too", Due.selection(x), "1100/1111/0111");
        T.fits(x, cmd(9, 1, 2, 1, 1, 2), 101);
        T.due("without these", Due.selection(x), "1100/1101/0111");
        T.fits(x, cmd(9, 0, 1, 2, 3, 3), 101);
        T.due("of these", Due.selection(x), "0100/0101/0000");
        T.fits(x, cmd(9, 0, 0, 3, 4, 0), 101);
        T.due("all", Due.selection(x), "1111/1111/1111");
        T.fits(x, cmd(9, 2, 3, 1, 1, 0), 101);
        T.due("the last", Due.selection(x), "0000/0000/0001");
        T.fits(x, cmd(9, 0, 0, 1, 1, 3), 101);
        T.due("none", x.about(4), 0);
        T.due("a selection changes no wool", x.outcome(1), 0);
    }

    private static void pick() {
        TapestryDesk x = Due.desk("1203/1133");
        x.run(11, 1, 0, 0, 0, 0);
        x.run(0, 0, 0, 0, 0, 3);
        int node = x.node();
        T.fits(x, cmd(10, 1, 77, 77, 77, 77), 101);
        T.due("pick(1)", Due.selection(x), "0000/1100");
        x.go(node);
        T.fits(x, cmd(10, 0), 101);
        T.due("pick(0)", Due.selection(x), "0010/0000");
        x.go(node);
        x.run(9, 0, 0, 1, 4, 0);
        T.fits(x, cmd(10, 3), 101);
        T.due("pick(3) of the selection", Due.selection(x), "1001/0000");
        x.go(node);
        x.run(12, 1, 0, 0, 0, 0);
        T.fits(x, cmd(10, 3), 101);
        T.due("pick(3) of what is shown", Due.selection(x), "0001/0011");
        x.go(node);
        T.fits(x, cmd(10, 9), 101);
        T.due("pick(9)", x.about(4), 0);
    }

    private static void useAndShow() {
        TapestryDesk x = new TapestryDesk();
        for (int layer = 2; layer >= 0; layer--) {
            T.fits(x, cmd(11, layer, 77, 77, 77, 77), 101);
            T.due("in use", x.about(2), layer);
        }
        int[][] shows = {{0, 0, 6}, {2, 0, 2}, {2, 0, 2}, {1, 0, 0}, {2, 1, 4}, {2, 1, 4}, {0, 1, 5}, {1, 1, 7}};
        for (int[] show : shows) {
            T.fits(x, cmd(12, show[0], show[1], 77, 77, 77), 101);
            T.due("shown", x.about(3), show[2]);
        }
    }

    private static void paintsTheSelectionAlone() {
        TapestryDesk x = new TapestryDesk();
        x.cloth(3, 3);
        x.run(9, 1, 1, 1, 1, 2);
        T.fits(x, cmd(0, 1, 1, 0, 0, 5), 1011);
        T.due("no spot", x.used(5), 0);
        T.fits(x, cmd(2, 0, 0, 2, 2, 6), 101011);
        T.due("a line with a gap", Due.picture(x, 0), "600/000/006");
        T.fits(x, cmd(3, 1, 1, 511, 0, 7), 1011);
        T.due("a stamp with a gap", Due.picture(x, 0), "777/707/777");
        T.fits(x, cmd(9, 0, 0, 3, 3, 2), 101);
        T.fits(x, cmd(0, 0, 0, 0, 0, 1), 1011);
        T.fits(x, cmd(1, 0, 0, 0, 0, 1), 1011);
        T.fits(x, cmd(2, 0, 0, 2, 2, 1), 101011);
        T.fits(x, cmd(3, 0, 0, 511, 2, 1), 1011);
        T.due("nothing without a selection", x.used(1), 0);
        T.due("no knot changed", x.outcome(1), 0);
    }

    private static void failsPoints() {
        TapestryDesk x = new TapestryDesk();
        x.cloth(4, 5);
        int[][] outside = {{-1, 0}, {0, -1}, {4, 0}, {0, 5}, {LEAST, 0}, {0, MOST}};
        for (int[] v : outside) {
            T.failsOn(4, 5, cmd(0, v[0], v[1], 0, 0, 77), OUTSIDE, 1000);
            T.failsOn(4, 5, cmd(1, v[0], v[1], 0, 0, 77), OUTSIDE, 1000);
            T.failsOn(4, 5, cmd(2, v[0], v[1], 0, 0, 77), OUTSIDE, 101000);
            T.failsOn(4, 5, cmd(2, 9, 9, v[0], v[1], 77), OUTSIDE, 100000);
            T.failsOn(4, 5, cmd(3, v[0], v[1], 999, 9, 77), OUTSIDE, 1000);
        }
        for (int wool : new int[] {-1, 10, LEAST, MOST}) {
            T.failsOn(4, 5, cmd(0, 3, 4, 0, 0, wool), WOOL, 1010);
            T.failsOn(4, 5, cmd(1, 3, 4, 0, 0, wool), WOOL, 1010);
            T.failsOn(4, 5, cmd(2, 3, 4, 0, 0, wool), WOOL, 101010);
            T.failsOn(4, 5, cmd(3, 3, 4, 512, 8, wool), WOOL, 1010);
        }
        for (int c : new int[] {-1, 512, LEAST, MOST}) {
            T.failsOn(4, 5, cmd(3, 0, 0, c, 0, 1), NUMBER, 1011);
        }
        for (int d : new int[] {-1, 8, LEAST, MOST}) {
            T.failsOn(4, 5, cmd(3, 0, 0, 1, d, 1), NUMBER, 1011);
        }
        T.fits(x, cmd(0, 3, 4, MOST, MOST, 9), 1011);
        T.fits(x, cmd(1, 0, 0, MOST, MOST, 0), 1011);
        T.fits(x, cmd(2, 3, 4, 0, 0, 9), 101011);
        T.fits(x, cmd(3, 0, 0, 511, 7, 0), 1011);
        T.fits(x, cmd(3, 0, 0, 0, 0, 9), 1011);
    }

    private static void failsBoxed() {
        for (int wool : new int[] {-1, 10, LEAST, MOST}) {
            T.failsOn(8, 8, cmd(6, 9, 0, 0, 0, wool), WOOL, 10010);
            T.failsOn(8, 8, cmd(7, 1, wool), WOOL, 10010);
            T.failsOn(8, 8, cmd(7, wool, 1), WOOL, 10010);
        }
        for (int a : new int[] {-1, 2, LEAST, MOST}) {
            T.failsOn(8, 8, cmd(4, a), NUMBER, 10011);
        }
        for (int a : new int[] {-21, 21, LEAST, MOST}) {
            T.failsOn(8, 8, cmd(5, a, 0), NUMBER, 10011);
            T.failsOn(8, 8, cmd(5, 0, a), NUMBER, 10011);
        }
        for (int a : new int[] {0, 6, LEAST, MOST}) {
            T.failsOn(8, 8, cmd(6, a, 0, 0, 0, 1), NUMBER, 10011);
        }
        for (int a : new int[] {0, 10, LEAST, MOST}) {
            T.failsOn(8, 8, cmd(8, a), NUMBER, 10011);
        }
        int[][] good = {cmd(4, 0, 77, 77, 77, 77), cmd(4, 1), cmd(5, 20, -20, 77, 77, 77), cmd(5, -20, 20),
            cmd(6, 1, 77, 77, 77, 9), cmd(6, 5), cmd(7, 0, 9, 77, 77, 77), cmd(7, 9, 0), cmd(8, 1, 77, 77, 77, 77),
            cmd(8, 9)};
        TapestryDesk x = new TapestryDesk();
        for (int[] v : good) {
            T.fits(x, v, 10011);
        }
        T.fits(x, cmd(9, 0, 0, 8, 8, 2), 101);
        for (int[] v : good) {
            T.fails(x, v, EMPTY, 10000);
        }
        T.fails(x, cmd(7, 77, 77), EMPTY, 10000);
        T.fails(x, cmd(8, 77), EMPTY, 10000);
    }

    private static void failsLooks() {
        TapestryDesk x = new TapestryDesk();
        x.cloth(4, 5);
        int[][] outside = {cmd(9, -1, 0, 1, 1, 9), cmd(9, 0, -1, 1, 1), cmd(9, 4, 0, 1, 1), cmd(9, 0, 5, 1, 1),
            cmd(9, 0, 0, 0, 1), cmd(9, 0, 0, 1, 0), cmd(9, 0, 0, 5, 1), cmd(9, 0, 0, 1, 6), cmd(9, 3, 0, 2, 1),
            cmd(9, 0, 4, 1, 2), cmd(9, 1, 1, MOST, 1), cmd(9, 1, 1, 1, MOST), cmd(9, LEAST, 0, LEAST, 1),
            cmd(9, LEAST, 0, 1, 1), cmd(9, 0, LEAST, 1, 1), cmd(9, MOST, 0, 1, 1), cmd(9, 0, 0, -1, -1)};
        for (int[] v : outside) {
            T.failsOn(4, 5, v, OUTSIDE, 100);
        }
        for (int e : new int[] {-1, 4, LEAST, MOST}) {
            T.failsOn(4, 5, cmd(9, 0, 0, 4, 5, e), NUMBER, 101);
        }
        for (int a : new int[] {-1, 10, LEAST, MOST}) {
            T.failsOn(4, 5, cmd(10, a), WOOL, 100);
        }
        for (int a : new int[] {-1, 3, LEAST, MOST}) {
            T.failsOn(4, 5, cmd(11, a), OUTSIDE, 100);
            T.failsOn(4, 5, cmd(12, a, 9), OUTSIDE, 100);
        }
        for (int b : new int[] {-1, 2, LEAST, MOST}) {
            T.failsOn(4, 5, cmd(12, 2, b), NUMBER, 101);
        }
        T.fits(x, cmd(9, 0, 0, 4, 5, 2), 101);
        T.fits(x, cmd(10, 0), 101);
    }

    private static void failureLeavesAll() {
        TapestryDesk x = new TapestryDesk();
        x.run(11, 2, 0, 0, 0, 0);
        x.run(9, 2, 2, 3, 3, 0);
        x.run(12, 0, 0, 0, 0, 0);
        x.run(6, 1, 0, 0, 0, 5);
        T.due("eight knots", x.outcome(1), 8);
        T.fails(x, cmd(0, 9, 0), OUTSIDE, 1000);
        T.due("about(2)", x.about(2), 2);
        T.due("about(3)", x.about(3), 6);
        T.due("about(4)", x.about(4), 9);
        T.due("about(7)", x.about(7), 5);
        T.due("about(8)", x.about(8), 5);
        T.due("told(4, 1)", x.told(4, 1), 0);
        T.due("the next number", x.run(12, 0, 0, 0, 0, 0), 5);
    }
}
