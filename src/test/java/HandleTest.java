/** Promises 9 to 12: handle, bind, same, call. */
public final class HandleTest {
    private static final Due T = new Due();
    private static final int LEAST = Integer.MIN_VALUE, MOST = Integer.MAX_VALUE;

    public static void main(String[] args) {
        handle();
        bind();
        bindOrder();
        same();
        call();
        callRefused();
        callFails();
        T.end();
    }

    private static void handle() {
        TapestryDesk x = new TapestryDesk();
        for (int kind : new int[] {-1, 13, LEAST, MOST}) {
            T.due("handle(" + kind + ")", x.handle(kind), TapestryDesk.BAD);
        }
        T.due("about(5)", x.about(5), 0);
        for (int i = 0; i < 40; i++) {
            T.due("handle(" + i % 13 + ")", x.handle(i % 13), i);
        }
        T.due("handle(0) when full", x.handle(0), TapestryDesk.FULL);
        T.due("handle(13) when full", x.handle(13), TapestryDesk.BAD);
        T.due("about(5)", x.about(5), 40);
        T.due("the last one is there", x.same(39, 0), 1);
        T.due("none beyond", x.same(40, 0), TapestryDesk.BAD);
    }

    private static void bind() {
        TapestryDesk x = new TapestryDesk();
        x.handle(0);
        int[][] bad = {{-1, 0}, {1, 0}, {LEAST, 0}, {MOST, 0}, {0, -1}, {0, 5}, {0, LEAST}, {0, MOST}};
        for (int[] v : bad) {
            T.due("bind(" + v[0] + ", " + v[1] + ", 0)", x.bind(v[0], v[1], 0), TapestryDesk.BAD);
        }
        for (int i = 0; i < 5; i++) {
            T.due("bind(" + i + ", " + i + ", " + (i + 1) + ")", x.bind(i, i, i + 1), i + 1);
        }
        for (int i = 0; i < 5; i++) {
            T.due("bound " + i, x.bind(5, i, 9), TapestryDesk.STATE);
        }
        T.due("bound to 0 is bound", x.bind(x.bind(0, 2, 0), 2, 0), TapestryDesk.STATE);
        T.due("the other is as it was", x.bind(0, 0, MOST), 7);
        T.due("about(5)", x.about(5), 8);
    }

    private static void bindOrder() {
        TapestryDesk x = new TapestryDesk();
        x.handle(0);
        x.bind(0, 1, 1);
        while (x.about(5) < 40) {
            x.handle(1);
        }
        T.due("FULL", x.bind(0, 1, 1), TapestryDesk.FULL);
        T.due("STATE ahead of FULL", x.bind(1, 1, 1), TapestryDesk.STATE);
        T.due("BAD ahead of STATE", x.bind(1, 5, 1), TapestryDesk.BAD);
        T.due("BAD ahead of FULL", x.bind(40, 1, 1), TapestryDesk.BAD);
    }

    private static void same() {
        TapestryDesk x = new TapestryDesk();
        x.handle(0);
        x.handle(0);
        x.handle(1);
        x.bind(0, 4, 3);
        x.bind(1, 4, 3);
        x.bind(1, 4, 2);
        x.bind(2, 4, 3);
        x.bind(0, 3, 3);
        x.bind(0, 3, 0);
        x.bind(3, 0, 1);
        x.bind(x.bind(0, 0, 1), 4, 3);
        int[][] pairs = {{0, 0, 1}, {0, 1, 1}, {0, 2, 0}, {3, 4, 1}, {4, 3, 1}, {3, 5, 0}, {3, 6, 0}, {3, 7, 0},
            {0, 8, 0}, {8, 0, 0}, {0, 3, 0}, {3, 0, 0}, {9, 11, 1}, {9, 10, 0}, {9, 3, 0}};
        for (int[] v : pairs) {
            T.due("same(" + v[0] + ", " + v[1] + ")", x.same(v[0], v[1]), v[2]);
        }
        int[][] bad = {{-1, 0}, {0, -1}, {12, 0}, {0, 12}, {LEAST, LEAST}, {MOST, MOST}, {-1, -1}};
        for (int[] v : bad) {
            T.due("same(" + v[0] + ", " + v[1] + ")", x.same(v[0], v[1]), TapestryDesk.BAD);
        }
    }

    private static void call() {
        TapestryDesk x = new TapestryDesk();
        x.cloth(3, 4);
        x.handle(0);
        T.due("call of none bound", x.call(0, 1, 2, 77, 77, 5), 1);
        T.due("its spot", Due.picture(x, 0), "0000/0050/0000");
        x.bind(0, 0, 2);
        T.due("call of a bound", x.call(1, 3, 77, 77, 6, 77), 2);
        T.due("its spot", Due.picture(x, 0), "0000/0050/0006");
        x.bind(1, 4, 7);
        T.due("call of a, e bound", x.call(2, 1, 77, 77, 77, 77), 3);
        T.due("its spot", Due.picture(x, 0), "0000/0050/0706");
        x.bind(0, 1, 3);
        T.due("call of b bound", x.call(3, 0, 77, 77, 8, 77), 4);
        T.due("its spot", Due.picture(x, 0), "0008/0050/0706");
        x.bind(x.bind(x.bind(x.bind(x.bind(0, 4, 9), 3, 77), 2, 77), 1, 0), 0, 0);
        T.due("call of all bound", x.call(x.about(5) - 1, 77, 77, 77, 77, 77), 5);
        T.due("its spot", Due.picture(x, 0), "9008/0050/0706");
        T.due("node()", x.node(), 5);
        T.due("told(5, 0)", x.told(5, 0), 4);
        x.handle(2);
        int line = x.bind(x.bind(x.about(5) - 1, 1, 0), 2, 2);
        T.due("call of b, c bound", x.call(line, 2, 3, 4, 77, 77), 6);
        T.due("its line", Due.picture(x, 0), "9008/0050/4444");
        T.due("outcome(1)", x.outcome(1), 4);
        T.due("outcome(2)", x.outcome(2), 1);
        T.due("trace()", x.trace(), 5 * 1011 + 101011);
    }

    private static void callRefused() {
        TapestryDesk x = new TapestryDesk();
        x.handle(0);
        for (int handle : new int[] {-1, 1, LEAST, MOST}) {
            T.due("call(" + handle + ")", x.call(handle, 0, 0, 0, 0, 1), TapestryDesk.BAD);
        }
        T.due("trace()", x.trace(), 0);
        for (int i = 1; i < 60; i++) {
            T.due("call " + i, x.call(0, 0, 0, 0, 0, 1), i);
        }
        T.due("call when full", x.call(0, 0, 0, 0, 0, 2), TapestryDesk.FULL);
        T.due("call that would fail when full", x.call(0, 9, 0, 0, 0, 2), TapestryDesk.FULL);
        T.due("bad call when full", x.call(1, 0, 0, 0, 0, 2), TapestryDesk.BAD);
        T.due("at", x.at(0, 0, 0), 1);
        T.due("trace()", x.trace(), 59 * 1011);
        T.due("outcome(0)", x.outcome(0), 0);
    }

    private static void callFails() {
        TapestryDesk x = new TapestryDesk();
        x.handle(3);
        x.bind(0, 3, 8);
        long digest = x.digest();
        T.due("call of what is bound badly", x.call(1, 0, 0, 1, 1, 1), TapestryDesk.FAILED);
        T.due("outcome(0)", x.outcome(0), 4);
        T.due("outcome(2)", x.outcome(2), 1);
        T.due("outcome(3)", x.outcome(3), 3);
        T.due("outcome(4)", x.outcome(4), 0);
        T.due("trace()", x.trace(), 1011);
        T.due("digest()", x.digest(), digest);
        T.due("about(8)", x.about(8), 1);
    }
}
