/** The edges that part 3 of the terms names of handles, and promises 9 to 12: a method for each sentence. */
public final class HandleEdgesTest {
    private static final Due T = new Due();
    private static final int LEAST = Integer.MIN_VALUE, MOST = Integer.MAX_VALUE;
    private static final int BAD = TapestryDesk.BAD, STATE = TapestryDesk.STATE, FULL = TapestryDesk.FULL;
    private static final int FAILED = TapestryDesk.FAILED;

    public static void main(String[] args) {
        fortyAtMost();
        fortyWithThoseThatAreBound();
        takesThemInOrder();
        zeroWhenThereAreNoMore();
        handleKinds();
        handleFull();
        bindBad();
        bindAnyNumber();
        bindState();
        bindFull();
        bindLeavesTheOther();
        sameOfAll();
        sameBad();
        callBad();
        callFull();
        callFailed();
        callMoreThanItTakes();
        T.end();
    }

    private static void fortyAtMost() {
        T.of("3 HANDLES (40 at most) are of a KIND");
        TapestryDesk x = new TapestryDesk();
        for (int i = 0; i < 40; i++) {
            T.due("handle " + i, x.handle(12), i);
        }
        T.due("a 41st", x.handle(12), FULL);
        T.due("about(5)", x.about(5), 40);
        T.due("the last one is called", x.call(39, 2, 0, 0, 0, 0), 1);
        T.due("about(3)", x.about(3), 3);
        T.due("none behind it", x.call(40, 2, 0, 0, 0, 0), BAD);
    }

    private static void fortyWithThoseThatAreBound() {
        T.of("HANDLES (40 at most)");
        TapestryDesk x = new TapestryDesk();
        x.handle(0);
        for (int i = 1; i < 40; i++) {
            T.due("bind " + i, x.bind(0, 4, i % 10), i);
        }
        T.due("a 41st", x.bind(0, 4, 1), FULL);
        T.due("about(5)", x.about(5), 40);
        x.call(39, 7, 7, 0, 0, 0);
        T.due("the last one is called", x.at(7, 7, 0), 9);
    }

    /** Each set of numbers that may be bound: a LINE from (0, 1) to (2, 3) in wool 7, whatever is bound. */
    private static void takesThemInOrder() {
        T.of("One that is CALLED with numbers takes these, in order, for those that are not BOUND");
        int[] numbers = {0, 1, 2, 3, 7};
        for (int bound = 0; bound < 32; bound++) {
            TapestryDesk x = new TapestryDesk();
            x.cloth(3, 4);
            int handle = x.handle(2);
            int[] given = {MOST, MOST, MOST, MOST, MOST};
            int count = 0;
            for (int i = 0; i < 5; i++) {
                if ((bound >> i & 1) == 1) {
                    handle = x.bind(handle, i, numbers[i]);
                } else {
                    given[count] = numbers[i];
                    count++;
                }
            }
            T.due("call of " + bound, x.call(handle, given[0], given[1], given[2], given[3], given[4]), 1);
            T.due("its line", Due.picture(x, 0), "0700/0070/0007");
        }
    }

    private static void zeroWhenThereAreNoMore() {
        T.of("(0, when there are no more)");
        TapestryDesk x = Due.desk("1111/1111");
        int spot = x.handle(0);
        x.macro(0, 0, 0, 0);
        x.part(0, spot, 1, 2, 9, 9);
        x.play(0);
        T.due("the fifth of none bound is 0", Due.picture(x, 0), "1111/1101");
        int lower = x.bind(spot, 0, 1);
        x.macro(0, 0, 0, 0);
        x.part(1, lower, 3, 9, 9, 6);
        x.play(1);
        T.due("four are enough for one bound", Due.picture(x, 0), "1111/1106");
    }

    private static void handleKinds() {
        T.of("A HANDLE of a KIND: its number. BAD; FULL.");
        TapestryDesk x = new TapestryDesk();
        for (int kind : new int[] {-1, 13, LEAST, MOST}) {
            T.refuses(x, "handle(" + kind + ")", () -> x.handle(kind), BAD);
        }
        for (int kind = 0; kind <= 12; kind++) {
            T.due("handle(" + kind + ")", x.handle(kind), kind);
        }
        for (int kind = 0; kind <= 12; kind++) {
            x.call(kind, MOST, MOST, MOST, MOST, MOST);
            T.due("the kind of " + kind, x.outcome(3), kind);
        }
    }

    private static void handleFull() {
        T.of("Refused, and nothing changes, the first of these: BAD (a number is not as told, or there is no such thing), STATE"
                + " (as told), FULL");
        TapestryDesk x = new TapestryDesk();
        for (int i = 0; i < 40; i++) {
            x.handle(0);
        }
        T.refuses(x, "handle(0) when full", () -> x.handle(0), FULL);
        T.refuses(x, "handle(13) when full", () -> x.handle(13), BAD);
        T.refuses(x, "handle(-1) when full", () -> x.handle(-1), BAD);
    }

    private static void bindBad() {
        T.of("its number i (0 .. 4) BOUND to v besides: its number. BAD;");
        TapestryDesk x = new TapestryDesk();
        T.refuses(x, "bind of none", () -> x.bind(0, 0, 0), BAD);
        x.handle(0);
        for (int handle : new int[] {-1, 1, LEAST, MOST}) {
            T.refuses(x, "bind(" + handle + ", 0, 0)", () -> x.bind(handle, 0, 0), BAD);
        }
        for (int i : new int[] {-1, 5, LEAST, MOST}) {
            T.refuses(x, "bind(0, " + i + ", 0)", () -> x.bind(0, i, 0), BAD);
        }
        T.due("the least i", x.bind(0, 0, 0), 1);
        T.due("the greatest i", x.bind(0, 4, 0), 2);
    }

    private static void bindAnyNumber() {
        T.of("A HANDLE like another one, with its number i (0 .. 4) BOUND to v besides");
        TapestryDesk x = new TapestryDesk();
        x.handle(0);
        int[] any = {LEAST, -1, 0, 10, MOST};
        for (int i = 0; i < any.length; i++) {
            T.due("bind(0, 4, " + any[i] + ")", x.bind(0, 4, any[i]), i + 1);
            int want = any[i] == 0 ? 1 : FAILED;
            T.due("its call", x.call(i + 1, 0, 0, 0, 0, 5), want);
        }
    }

    private static void bindState() {
        T.of("BAD; STATE: it is BOUND; FULL.");
        TapestryDesk x = new TapestryDesk();
        int handle = x.handle(2);
        for (int i = 0; i < 5; i++) {
            int number = i;
            handle = x.bind(handle, i, 0);
            int last = handle;
            T.refuses(x, "bind of what is bound to another", () -> x.bind(last, number, 9), STATE);
            T.refuses(x, "bind of what is bound to the same", () -> x.bind(last, number, 0), STATE);
        }
        int all = handle;
        T.refuses(x, "bind of the first, behind others", () -> x.bind(all, 0, 1), STATE);
        T.refuses(x, "bad bind of what is all bound", () -> x.bind(all, 5, 1), BAD);
    }

    private static void bindFull() {
        T.of("STATE: it is BOUND; FULL.");
        TapestryDesk x = new TapestryDesk();
        x.handle(0);
        x.bind(0, 4, 1);
        for (int i = 2; i < 40; i++) {
            x.handle(0);
        }
        T.refuses(x, "bind(0, 4, 1) when full", () -> x.bind(0, 4, 1), FULL);
        T.refuses(x, "bind of what is bound, when full", () -> x.bind(1, 4, 1), STATE);
        T.refuses(x, "bind(1, 5, 1) when full", () -> x.bind(1, 5, 1), BAD);
        T.refuses(x, "bind(40, 0, 1) when full", () -> x.bind(40, 0, 1), BAD);
    }

    private static void bindLeavesTheOther() {
        T.of("A HANDLE like another one");
        TapestryDesk x = new TapestryDesk();
        x.cloth(1, 3);
        x.handle(0);
        x.bind(0, 4, 5);
        x.bind(1, 1, 2);
        x.call(0, 0, 0, 0, 0, 9);
        x.call(1, 0, 1, 0, 0, 9);
        x.call(2, 0, 1, 0, 0, 9);
        T.due("each as it was made", Due.picture(x, 0), "955");
    }

    private static void sameOfAll() {
        T.of("Whether two HANDLES are of one KIND, with the same numbers BOUND to the same: 1, 0.");
        TapestryDesk x = new TapestryDesk();
        x.handle(0);
        x.handle(0);
        x.handle(12);
        x.bind(0, 0, 0);
        x.bind(1, 0, 0);
        x.bind(0, 0, 1);
        x.bind(0, 4, 0);
        x.bind(3, 4, MOST);
        x.bind(x.bind(1, 4, MOST), 0, 0);
        x.bind(x.bind(1, 4, LEAST), 0, 0);
        x.bind(2, 0, 0);
        int[][] pairs = {{0, 0, 1}, {0, 1, 1}, {0, 2, 0}, {0, 3, 0}, {3, 0, 0}, {3, 4, 1}, {3, 5, 0}, {3, 6, 0}, {7, 9, 1},
            {9, 7, 1}, {7, 11, 0}, {7, 8, 0}, {8, 7, 0}, {3, 12, 0}, {12, 12, 1}};
        for (int[] v : pairs) {
            T.due("same(" + v[0] + ", " + v[1] + ")", x.same(v[0], v[1]), v[2]);
        }
    }

    private static void sameBad() {
        T.of("with the same numbers BOUND to the same: 1, 0. BAD.");
        TapestryDesk x = new TapestryDesk();
        T.refuses(x, "same of none", () -> x.same(0, 0), BAD);
        x.handle(0);
        x.handle(0);
        for (int handle : new int[] {-1, 2, 40, LEAST, MOST}) {
            T.due("same(" + handle + ", 0)", x.same(handle, 0), BAD);
            T.due("same(0, " + handle + ")", x.same(0, handle), BAD);
            T.due("same(" + handle + ", " + handle + ")", x.same(handle, handle), BAD);
        }
        T.due("same(1, 0)", x.same(1, 0), 1);
    }

    private static void callBad() {
        T.of("(those that are more than it takes are not looked at): the number of its NODE. BAD; FULL; FAILED.");
        TapestryDesk x = new TapestryDesk();
        T.refuses(x, "call of none", () -> x.call(0, 0, 0, 0, 0, 0), BAD);
        x.handle(0);
        for (int handle : new int[] {-1, 1, LEAST, MOST}) {
            T.refuses(x, "call(" + handle + ")", () -> x.call(handle, 0, 0, 0, 0, 0), BAD);
        }
        T.due("call(0)", x.call(0, 0, 0, 0, 0, 0), 1);
    }

    private static void callFull() {
        T.of("FULL (of run(), call(), play(): 60 NODES ever).");
        TapestryDesk x = new TapestryDesk();
        x.handle(0);
        for (int i = 1; i < 60; i++) {
            T.due("call " + i, x.call(0, 0, 0, 0, 0, i % 10), i);
        }
        T.refuses(x, "call when full", () -> x.call(0, 0, 0, 0, 0, 1), FULL);
        T.refuses(x, "call that would fail when full", () -> x.call(0, 8, 0, 0, 0, 1), FULL);
        T.refuses(x, "bad call when full", () -> x.call(1, 0, 0, 0, 0, 1), BAD);
        T.due("a handle is made when nodes are full", x.handle(0), 1);
        T.due("and bound", x.bind(1, 0, 0), 2);
    }

    private static void callFailed() {
        T.of("FAILED is answered for FAILURES.");
        TapestryDesk x = Due.desk("12/34");
        int spot = x.handle(0);
        int beyond = x.bind(spot, 4, 10);
        int node = x.node();
        long digest = x.digest();
        long trace = x.trace();
        T.due("call outside", x.call(spot, 2, 0, 0, 0, 1), FAILED);
        T.due("outcome()", Due.outcome(x), "1 0 1 0 0");
        T.due("call of a wool beyond", x.call(beyond, 0, 0, 0, 0, 1), FAILED);
        T.due("outcome()", Due.outcome(x), "2 0 1 0 0");
        T.due("trace()", x.trace() - trace, 1000 + 1010);
        T.due("digest()", x.digest(), digest);
        T.due("node()", x.node(), node);
        T.due("the next number", x.call(spot, 1, 1, 0, 0, 1), node + 1);
        T.due("outcome()", Due.outcome(x), "0 1 1 -9 0");
    }

    private static void callMoreThanItTakes() {
        T.of("(those that are more than it takes are not looked at)");
        for (int odd : new int[] {LEAST, -1, 512, MOST}) {
            TapestryDesk x = new TapestryDesk();
            x.cloth(2, 2);
            int handle = x.handle(3);
            int[] bound = {1, 1, 511, 7, 5};
            for (int i = 4; i >= 0; i--) {
                handle = x.bind(handle, i, bound[i]);
            }
            T.due("all are bound", x.call(handle, odd, odd, odd, odd, odd), 1);
            T.due("its stamp", Due.picture(x, 0), "55/55");
            T.due("one is not bound", x.call(handle - 1, 0, odd, odd, odd, odd), 2);
            T.due("it is the first that it takes", x.call(handle - 1, 2, 0, 0, 0, 0), FAILED);
        }
    }
}
