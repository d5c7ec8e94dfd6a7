/** The edges that part 3 of the terms names of macros, and promises 13 to 18: a method for each sentence. */
public final class MacroEdgesTest {
    private static final Due T = new Due();
    private static final int LEAST = Integer.MIN_VALUE, MOST = Integer.MAX_VALUE;
    private static final int BAD = TapestryDesk.BAD, FULL = TapestryDesk.FULL, FAILED = TapestryDesk.FAILED;
    private static final int IN_TURN = 0, REPEAT = 1, IF = 2, EACH = 3, LONG = 5;

    public static void main(String[] args) {
        twentyAtMost();
        eightPartsAtMost();
        lesserNumbers();
        deepest();
        inTurnOnce();
        repeatAsOften();
        ifThereIsItsKnot();
        ifSeenAsItBegins();
        eachLayer();
        eachAsEachTimeBegins();
        eachBehindAll();
        threeHundredParts();
        theNextFails();
        partsOfMacrosCount();
        emptyMacrosCount();
        aFailureEndsAll();
        macroKinds();
        macroNumbers();
        macroNumbersNotLookedAt();
        macroFull();
        partBad();
        partFull();
        partGivenFourNumbers();
        nestBad();
        nestFull();
        timesBad();
        timesWas();
        playBad();
        playFull();
        outcomeAtFirst();
        outcomeBad();
        outcomeOfTheLatest();
        outcomeChanged();
        outcomeDone();
        outcomeKind();
        outcomeDepth();
        T.end();
    }

    private static void twentyAtMost() {
        T.of("MACROS (20 at most)");
        TapestryDesk x = new TapestryDesk();
        for (int i = 0; i < 20; i++) {
            T.due("macro " + i, x.macro(i % 4, 0, 0, 0), i);
        }
        T.refuses(x, "a 21st", () -> x.macro(IN_TURN, 0, 0, 0), FULL);
        T.due("about(6)", x.about(6), 20);
        T.due("the last one is played", x.play(19), 1);
        T.due("none behind it", x.play(20), BAD);
    }

    private static void eightPartsAtMost() {
        T.of("with PARTS (8 at most)");
        TapestryDesk x = new TapestryDesk();
        x.cloth(1, 9);
        int spot = x.bind(x.handle(0), 4, 5);
        x.macro(IN_TURN, 0, 0, 0);
        for (int i = 0; i < 8; i++) {
            T.due("part " + i, x.part(0, spot, 0, i, 0, 0), i + 1);
        }
        T.refuses(x, "a ninth", () -> x.part(0, spot, 0, 8, 0, 0), FULL);
        x.play(0);
        T.due("eight are done", Due.picture(x, 0), "555555550");
    }

    private static void lesserNumbers() {
        T.of("MACROS with lesser numbers.");
        TapestryDesk x = new TapestryDesk();
        for (int i = 0; i < 20; i++) {
            x.macro(IN_TURN, 0, 0, 0);
        }
        T.due("the least in the greatest", x.nest(19, 0), 1);
        T.due("the one right below", x.nest(19, 18), 2);
        T.due("itself", x.nest(19, 19), BAD);
        T.due("the one right above", x.nest(18, 19), BAD);
        T.due("the greatest in the least", x.nest(0, 19), BAD);
        T.due("the least in itself", x.nest(0, 0), BAD);
    }

    /** Twenty in one another, the least of which paints; 19 macros and a handle are called. */
    private static void deepest() {
        T.of("MACROS with lesser numbers. A MACRO that is CALLED does its PARTS");
        TapestryDesk x = new TapestryDesk();
        x.macro(IN_TURN, 0, 0, 0);
        x.part(0, x.bind(x.handle(0), 4, 9), 7, 7, 0, 0);
        for (int i = 1; i < 20; i++) {
            x.macro(IN_TURN, 0, 0, 0);
            x.nest(i, i - 1);
        }
        T.due("play(19)", x.play(19), 1);
        T.due("outcome()", Due.outcome(x), "0 1 1 -9 0");
        T.due("at(7, 7, 0)", x.at(7, 7, 0), 9);
    }

    private static void inTurnOnce() {
        T.of("A MACRO that is CALLED does its PARTS, in order: IN TURN once");
        TapestryDesk x = new TapestryDesk();
        x.cloth(1, 2);
        int spot = x.handle(0);
        x.macro(IN_TURN, 9, 9, 9);
        T.due("one of no parts", x.play(0), 1);
        T.due("nothing is done", Due.outcome(x), "0 0 0 -9 0");
        x.part(0, x.bind(spot, 4, 5), 0, 0, 0, 0);
        x.part(0, x.bind(spot, 4, 6), 0, 0, 0, 0);
        x.part(0, x.handle(5), 0, 1, 0, 0);
        T.due("play(0)", x.play(0), 2);
        T.due("in order", Due.picture(x, 0), "06");
        T.due("each once", x.outcome(2), 3);
    }

    private static void repeatAsOften() {
        T.of("REPEAT as often as its NUMBER is as it begins");
        for (int n = 0; n <= 9; n++) {
            TapestryDesk x = new TapestryDesk();
            x.cloth(1, 10);
            x.run(0, 0, 0, 0, 0, 5);
            x.macro(REPEAT, n, 0, 0);
            x.part(0, x.handle(5), 0, 1, 0, 0);
            T.due("play(0)", x.play(0), 2);
            T.due("so often", x.outcome(2), n);
            T.due("so far", x.at(0, n, 0), 5);
        }
    }

    private static void ifThereIsItsKnot() {
        T.of("IF, if there is its KNOT, and SEEN there is its WOOL");
        int[][] ifs = {{0, 0, 0, 1}, {2, 3, 0, 1}, {3, 3, 0, 0}, {2, 4, 0, 0}, {9, 9, 0, 0}, {0, 0, 1, 0}, {0, 0, 9, 0}};
        for (int[] v : ifs) {
            TapestryDesk x = new TapestryDesk();
            x.cloth(3, 4);
            x.macro(IF, v[0], v[1], v[2]);
            x.part(0, x.handle(11), 2, 0, 0, 0);
            T.due("a node, either way", x.play(0), 1);
            T.due("if (" + v[0] + ", " + v[1] + ") is " + v[2], x.outcome(2), v[3]);
            T.due("in use", x.about(2), 2 * v[3]);
        }
        TapestryDesk x = new TapestryDesk();
        x.macro(IF, 9, 9, 0);
        x.part(0, x.handle(11), 2, 0, 0, 0);
        x.play(0);
        T.due("no knot of 8 by 8", x.outcome(2), 0);
        x.cloth(10, 10);
        x.play(0);
        T.due("a knot of 10 by 10", x.outcome(2), 1);
    }

    private static void ifSeenAsItBegins() {
        T.of("SEEN there is its WOOL, as it begins");
        TapestryDesk x = new TapestryDesk();
        x.cloth(1, 2);
        int spot = x.handle(0);
        x.macro(IF, 0, 0, 0);
        x.part(0, x.bind(spot, 4, 9), 0, 0, 0, 0);
        x.part(0, x.bind(spot, 4, 8), 0, 1, 0, 0);
        x.macro(IF, 0, 0, 9);
        x.part(1, x.handle(11), 2, 0, 0, 0);
        x.macro(IN_TURN, 0, 0, 0);
        x.nest(2, 0);
        x.nest(2, 1);
        x.nest(2, 0);
        x.play(2);
        T.due("what it does itself does not end it", Due.picture(x, 0), "98");
        T.due("the next looks as it begins", x.about(2), 2);
        T.due("not again", x.outcome(2), 3);
        x.run(0, 0, 0, 0, 0, 4);
        x.play(1);
        T.due("another wool is seen over it", x.outcome(2), 0);
        x.run(12, 2, 0, 0, 0, 0);
        x.play(1);
        T.due("and is not shown", x.outcome(2), 1);
    }

    private static void eachLayer() {
        T.of("EACH three times, with LAYER 0, 1, 2 IN USE");
        for (int inUse = 0; inUse <= 2; inUse++) {
            TapestryDesk x = new TapestryDesk();
            x.cloth(1, 1);
            x.run(11, inUse, 0, 0, 0, 0);
            x.macro(EACH, 0, 0, 0);
            x.part(0, x.bind(x.handle(0), 4, 5), 0, 0, 0, 0);
            T.due("play(0)", x.play(0), 2);
            for (int layer = 0; layer <= 2; layer++) {
                T.due("layer " + layer, x.at(0, 0, layer), 5);
            }
            T.due("three are done", x.outcome(2), 3);
            T.due("one knot", x.outcome(1), 1);
            T.due("in use behind all", x.about(2), inUse);
        }
    }

    private static void eachAsEachTimeBegins() {
        T.of("IN USE as each time begins");
        TapestryDesk x = new TapestryDesk();
        x.cloth(1, 2);
        int spot = x.bind(x.handle(0), 4, 5);
        x.macro(EACH, 0, 0, 0);
        x.part(0, spot, 0, 0, 0, 0);
        x.part(0, x.handle(11), 0, 0, 0, 0);
        x.part(0, spot, 0, 1, 0, 0);
        x.play(0);
        T.due("layer 0", Due.picture(x, 0), "55");
        T.due("layer 1", Due.picture(x, 1), "50");
        T.due("layer 2", Due.picture(x, 2), "50");
    }

    private static void eachBehindAll() {
        T.of("what was IN USE as it began behind all.");
        TapestryDesk x = new TapestryDesk();
        x.cloth(1, 2);
        int use = x.handle(11);
        int spot = x.bind(x.handle(0), 4, 5);
        x.macro(EACH, 0, 0, 0);
        x.part(0, use, 2, 0, 0, 0);
        x.macro(IN_TURN, 0, 0, 0);
        x.part(1, use, 1, 0, 0, 0);
        x.nest(1, 0);
        x.part(1, spot, 0, 1, 0, 0);
        x.play(1);
        T.due("not what was in use ahead of the play", x.about(2), 1);
        T.due("it goes on with that", Due.picture(x, 1), "05");
        x.macro(EACH, 0, 0, 0);
        x.play(2);
        T.due("of no parts", x.about(2), 1);
    }

    /** A play of macro 2 calls 6 + 49 n parts, and as many more as are joined to macro 2. */
    private static TapestryDesk longOne(int n) {
        TapestryDesk x = new TapestryDesk();
        x.handle(11);
        x.macro(REPEAT, 7, 0, 0);
        x.part(0, 0, 0, 0, 0, 0);
        x.macro(REPEAT, n, 0, 0);
        for (int i = 0; i < 6; i++) {
            x.nest(1, 0);
        }
        x.part(1, 0, 0, 0, 0, 0);
        x.macro(IN_TURN, 0, 0, 0);
        x.nest(2, 1);
        for (int i = 0; i < 5; i++) {
            x.part(2, 0, 0, 0, 0, 0);
        }
        return x;
    }

    private static void threeHundredParts() {
        T.of("300 PARTS are CALLED at most in all that one play() does");
        TapestryDesk x = longOne(6);
        T.due("300 parts", x.play(2), 1);
        T.due("263 commands", Due.outcome(x), "0 0 263 -9 0");
        T.due("300 again, each play counts for itself", x.play(2), 2);
        T.due("trace()", x.trace(), 2 * 263 * 101);
    }

    private static void theNextFails() {
        T.of("the 301st FAILS: LONG, and is not done.");
        TapestryDesk x = longOne(6);
        x.part(2, 0, 2, 0, 0, 0);
        T.due("301 parts", x.play(2), FAILED);
        T.due("outcome()", Due.outcome(x), "5 0 263 -9 1");
        T.due("it is not asked", x.trace(), 263 * 101);
        T.due("about(2)", x.about(2), 0);
        T.due("about(8)", x.about(8), 1);
        x.times(1, 5);
        T.due("49 fewer", x.play(2), 1);
        T.due("in use now", x.about(2), 2);
    }

    private static void partsOfMacrosCount() {
        T.of("those of MACROS within, too");
        TapestryDesk x = longOne(7);
        x.macro(IN_TURN, 0, 0, 0);
        x.nest(3, 2);
        T.due("play(3)", x.play(3), FAILED);
        // Two parts lead into macro 1, six rounds have 49 each; then come a macro and three of its seven.
        T.due("the 301st is in four", Due.outcome(x), "5 0 261 -9 4");
    }

    private static void emptyMacrosCount() {
        T.of("300 PARTS are CALLED at most");
        TapestryDesk x = new TapestryDesk();
        x.macro(IN_TURN, 0, 0, 0);
        x.macro(REPEAT, 9, 0, 0);
        for (int i = 0; i < 8; i++) {
            x.nest(1, 0);
        }
        x.macro(IN_TURN, 0, 0, 0);
        for (int i = 0; i < 4; i++) {
            x.nest(2, 1);
        }
        T.due("292 macros of no parts", x.play(2), 1);
        T.due("outcome()", Due.outcome(x), "0 0 0 -9 0");
        x.macro(IN_TURN, 0, 0, 0);
        x.nest(3, 2);
        for (int i = 0; i < 7; i++) {
            x.nest(3, 0);
        }
        T.due("300 with those in it", x.play(3), 2);
        x.macro(IN_TURN, 0, 0, 0);
        x.nest(4, 3);
        T.due("301, the last one a macro", x.play(4), FAILED);
        T.due("outcome()", Due.outcome(x), "5 0 0 -9 2");
    }

    private static void aFailureEndsAll() {
        T.of("A FAILURE ends all: all is as it was ahead (but THE TRACE).");
        TapestryDesk x = Due.desk("12/34");
        x.run(11, 1, 0, 0, 0, 0);
        x.macro(EACH, 0, 0, 0);
        x.part(0, x.bind(x.handle(0), 4, 9), 1, 1, 0, 0);
        x.part(0, x.handle(12), 1, 0, 0, 0);
        x.part(0, x.handle(9), 0, 0, 1, 1);
        x.part(0, x.handle(11), 3, 0, 0, 0);
        x.part(0, x.handle(11), 2, 0, 0, 0);
        x.macro(REPEAT, 9, 0, 0);
        x.nest(1, 0);
        long trace = x.trace();
        long digest = x.digest();
        int node = x.node();
        T.due("play(1)", x.play(1), FAILED);
        T.due("outcome()", Due.outcome(x), "1 0 4 11 2");
        T.due("trace()", x.trace() - trace, 1011 + 101 + 101 + 100);
        T.due("digest()", x.digest(), digest);
        T.due("node()", x.node(), node);
        T.due("about(2)", x.about(2), 1);
        T.due("about(3)", x.about(3), 7);
        T.due("about(4)", x.about(4), 4);
        T.due("about(7)", x.about(7), node + 1);
        T.due("about(8)", x.about(8), node + 1);
        T.due("told(node, 1)", x.told(node, 1), 0);
    }

    private static void macroKinds() {
        T.of("are 0 IN TURN, 1 REPEAT, 2 IF, 3 EACH");
        TapestryDesk x = new TapestryDesk();
        for (int kind : new int[] {-1, 4, LEAST, MOST}) {
            T.refuses(x, "macro(" + kind + ")", () -> x.macro(kind, 0, 0, 0), BAD);
        }
        for (int kind = 0; kind <= 3; kind++) {
            T.due("macro(" + kind + ", 2, 2, 1)", x.macro(kind, 2, 2, 1), kind);
            x.part(kind, x.handle(11), 0, 0, 0, 0);
            x.play(kind);
            T.due("how often", x.outcome(2), new int[] {1, 2, 0, 3}[kind]);
        }
    }

    private static void macroNumbers() {
        T.of("BAD: REPEAT's 0 .. 9, IF's 0 .. 9 each; FULL.");
        TapestryDesk x = new TapestryDesk();
        for (int v : new int[] {-1, 10, LEAST, MOST}) {
            T.refuses(x, "macro(1, " + v + ", 0, 0)", () -> x.macro(REPEAT, v, 0, 0), BAD);
            T.due("macro(2, " + v + ", 0, 0)", x.macro(IF, v, 0, 0), BAD);
            T.due("macro(2, 0, " + v + ", 0)", x.macro(IF, 0, v, 0), BAD);
            T.due("macro(2, 0, 0, " + v + ")", x.macro(IF, 0, 0, v), BAD);
        }
        T.due("about(6)", x.about(6), 0);
        int[][] good = {{REPEAT, 0, 0, 0}, {REPEAT, 9, 0, 0}, {IF, 0, 0, 0}, {IF, 9, 0, 0}, {IF, 0, 9, 0}, {IF, 0, 0, 9}};
        for (int i = 0; i < good.length; i++) {
            T.due("good macro " + i, x.macro(good[i][0], good[i][1], good[i][2], good[i][3]), i);
        }
    }

    private static void macroNumbersNotLookedAt() {
        T.of("(REPEAT: NUMBER n. IF: its KNOT (n, m), WOOL w. Others are not looked at.)");
        TapestryDesk x = new TapestryDesk();
        int[][] odd = {{IN_TURN, LEAST, -1, 10}, {IN_TURN, 10, MOST, -1}, {EACH, -1, 10, MOST}, {EACH, MOST, LEAST, 10},
            {REPEAT, 2, -1, 10}, {REPEAT, 2, MOST, LEAST}};
        int[] often = {1, 1, 3, 3, 2, 2};
        x.handle(11);
        for (int i = 0; i < odd.length; i++) {
            T.due("macro " + i, x.macro(odd[i][0], odd[i][1], odd[i][2], odd[i][3]), i);
            x.part(i, 0, 0, 0, 0, 0);
            x.play(i);
            T.due("how often", x.outcome(2), often[i]);
        }
    }

    private static void macroFull() {
        T.of("IF's 0 .. 9 each; FULL.");
        TapestryDesk x = new TapestryDesk();
        for (int i = 0; i < 20; i++) {
            x.macro(EACH, 0, 0, 0);
        }
        T.refuses(x, "macro(0) when full", () -> x.macro(IN_TURN, 0, 0, 0), FULL);
        T.refuses(x, "macro(2, 9, 9, 9) when full", () -> x.macro(IF, 9, 9, 9), FULL);
        T.refuses(x, "macro(4) when full", () -> x.macro(4, 0, 0, 0), BAD);
        T.refuses(x, "macro(1, 10) when full", () -> x.macro(REPEAT, 10, 0, 0), BAD);
        T.refuses(x, "macro(2, 0, 0, 10) when full", () -> x.macro(IF, 0, 0, 10), BAD);
    }

    private static void partBad() {
        T.of("A HANDLE becomes a MACRO's next PART, given four numbers: how many it has. BAD; FULL.");
        TapestryDesk x = new TapestryDesk();
        T.refuses(x, "part of nothing", () -> x.part(0, 0, 0, 0, 0, 0), BAD);
        x.macro(IN_TURN, 0, 0, 0);
        T.refuses(x, "part of no handle", () -> x.part(0, 0, 0, 0, 0, 0), BAD);
        x.handle(11);
        for (int v : new int[] {-1, 1, LEAST, MOST}) {
            T.due("part(" + v + ", 0)", x.part(v, 0, 0, 0, 0, 0), BAD);
            T.due("part(0, " + v + ")", x.part(0, v, 0, 0, 0, 0), BAD);
            T.due("part(" + v + ", " + v + ")", x.part(v, v, 0, 0, 0, 0), BAD);
        }
        T.due("none of them came", x.part(0, 0, 0, 0, 0, 0), 1);
        x.play(0);
        T.due("one is done", x.outcome(2), 1);
    }

    private static void partFull() {
        T.of("given four numbers: how many it has. BAD; FULL.");
        TapestryDesk x = new TapestryDesk();
        x.handle(11);
        x.macro(IN_TURN, 0, 0, 0);
        x.macro(IN_TURN, 0, 0, 0);
        for (int i = 1; i <= 4; i++) {
            T.due("nest", x.nest(1, 0), 2 * i - 1);
            T.due("part", x.part(1, 0, 0, 0, 0, 0), 2 * i);
        }
        T.refuses(x, "part when full", () -> x.part(1, 0, 0, 0, 0, 0), FULL);
        T.refuses(x, "part of no handle when full", () -> x.part(1, 1, 0, 0, 0, 0), BAD);
        T.refuses(x, "part of handle -1 when full", () -> x.part(1, -1, 0, 0, 0, 0), BAD);
        x.play(1);
        T.due("four commands", x.outcome(2), 4);
        T.due("another one is not full", x.part(0, 0, 0, 0, 0, 0), 1);
    }

    private static void partGivenFourNumbers() {
        T.of("given four numbers");
        TapestryDesk x = new TapestryDesk();
        x.cloth(3, 3);
        x.macro(IN_TURN, 0, 0, 0);
        T.due("any numbers", x.part(0, x.handle(9), LEAST, MOST, -1, 0), 1);
        T.due("they are looked at as it is played", x.play(0), FAILED);
        T.due("outcome()", Due.outcome(x), "1 0 1 9 1");
        x.macro(IN_TURN, 0, 0, 0);
        x.part(1, 0, 1, 0, 2, 3);
        T.due("play(1)", x.play(1), 1);
        T.due("a, b, c, d", Due.selection(x), "000/111/111");
    }

    private static void nestBad() {
        T.of("A MACRO becomes a MACRO's next PART: how many it has. BAD: also one that has not a lesser number; FULL.");
        TapestryDesk x = new TapestryDesk();
        T.refuses(x, "nest of none", () -> x.nest(0, 0), BAD);
        x.macro(IN_TURN, 0, 0, 0);
        x.macro(IN_TURN, 0, 0, 0);
        int[][] bad = {{0, 0}, {1, 1}, {0, 1}, {1, -1}, {1, 2}, {2, 0}, {2, 1}, {2, 2}, {-1, 0}, {-1, -2}, {LEAST, 0}, {MOST, 0},
            {1, LEAST}, {1, MOST}};
        for (int[] v : bad) {
            T.due("nest(" + v[0] + ", " + v[1] + ")", x.nest(v[0], v[1]), BAD);
        }
        T.due("none of them came", x.nest(1, 0), 1);
    }

    private static void nestFull() {
        T.of("BAD: also one that has not a lesser number; FULL.");
        TapestryDesk x = new TapestryDesk();
        x.handle(11);
        x.macro(IN_TURN, 0, 0, 0);
        x.part(0, 0, 0, 0, 0, 0);
        x.macro(IN_TURN, 0, 0, 0);
        for (int i = 1; i <= 8; i++) {
            T.due("nest " + i, x.nest(1, 0), i);
        }
        T.refuses(x, "nest when full", () -> x.nest(1, 0), FULL);
        T.refuses(x, "nest of itself when full", () -> x.nest(1, 1), BAD);
        T.refuses(x, "nest of none when full", () -> x.nest(1, 2), BAD);
        x.play(1);
        T.due("eight commands", x.outcome(2), 8);
    }

    private static void timesBad() {
        T.of("A REPEAT's NUMBER becomes n: what it was. BAD: also no REPEAT.");
        TapestryDesk x = new TapestryDesk();
        T.refuses(x, "times of none", () -> x.times(0, 0), BAD);
        for (int kind = 0; kind <= 3; kind++) {
            x.macro(kind, 5, 5, 5);
        }
        for (int macro : new int[] {IN_TURN, IF, EACH, 4, -1, LEAST, MOST}) {
            T.due("times(" + macro + ", 1)", x.times(macro, 1), BAD);
        }
        for (int n : new int[] {-1, 10, LEAST, MOST}) {
            T.due("times(1, " + n + ")", x.times(REPEAT, n), BAD);
        }
        T.due("it is what it was", x.times(REPEAT, 5), 5);
    }

    private static void timesWas() {
        T.of("A REPEAT's NUMBER becomes n: what it was.");
        TapestryDesk x = new TapestryDesk();
        x.macro(REPEAT, 4, 0, 0);
        x.part(0, x.handle(11), 0, 0, 0, 0);
        int[][] times = {{0, 4}, {9, 0}, {9, 9}, {1, 9}};
        for (int[] v : times) {
            T.due("times(0, " + v[0] + ")", x.times(0, v[0]), v[1]);
            x.play(0);
            T.due("so often", x.outcome(2), v[0]);
        }
    }

    private static void playBad() {
        T.of("A MACRO is CALLED: PLAYED: the number of its NODE. BAD; FULL; FAILED.");
        TapestryDesk x = new TapestryDesk();
        T.refuses(x, "play of none", () -> x.play(0), BAD);
        x.macro(IN_TURN, 0, 0, 0);
        for (int macro : new int[] {-1, 1, 20, LEAST, MOST}) {
            T.refuses(x, "play(" + macro + ")", () -> x.play(macro), BAD);
        }
        T.due("play(0)", x.play(0), 1);
    }

    private static void playFull() {
        T.of("FULL (of run(), call(), play(): 60 NODES ever).");
        TapestryDesk x = new TapestryDesk();
        x.macro(IN_TURN, 0, 0, 0);
        x.macro(IN_TURN, 0, 0, 0);
        x.part(1, x.handle(0), 8, 8, 0, 0);
        for (int i = 1; i < 60; i++) {
            T.due("play " + i, x.play(0), i);
        }
        T.refuses(x, "play when full", () -> x.play(0), FULL);
        T.refuses(x, "play that would fail when full", () -> x.play(1), FULL);
        T.refuses(x, "bad play when full", () -> x.play(2), BAD);
        T.due("macros are made when nodes are full", x.macro(IN_TURN, 0, 0, 0), 2);
        T.due("and joined", x.nest(2, 0), 1);
    }

    private static void outcomeAtFirst() {
        T.of("0 at first (3: NONE).");
        TapestryDesk x = new TapestryDesk();
        T.due("outcome()", Due.outcome(x), "0 0 0 -9 0");
        x.cloth(3, 3);
        x.run(13, 0, 0, 0, 0, 0);
        x.call(0, 0, 0, 0, 0, 0);
        x.play(0);
        T.due("outcome() behind refusals", Due.outcome(x), "0 0 0 -9 0");
    }

    private static void outcomeBad() {
        T.of("0 at first (3: NONE). BAD.");
        TapestryDesk x = new TapestryDesk();
        for (int what : new int[] {-1, 5, LEAST, MOST}) {
            T.due("outcome(" + what + ")", x.outcome(what), BAD);
        }
    }

    private static void outcomeOfTheLatest() {
        T.of("Of the latest run(), call() or play() that was not refused by BAD or FULL");
        TapestryDesk x = new TapestryDesk();
        x.handle(0);
        x.macro(IN_TURN, 0, 0, 0);
        x.part(0, 0, 0, 0, 0, 0);
        for (int i = 1; i < 59; i++) {
            x.run(11, 0, 0, 0, 0, 0);
        }
        x.call(0, 0, 0, 0, 0, 10);
        String failed = "2 0 1 0 0";
        T.due("of what failed", Due.outcome(x), failed);
        x.run(13, 0, 0, 0, 0, 0);
        x.call(1, 0, 0, 0, 0, 0);
        x.play(1);
        x.undo();
        x.redo();
        x.go(0);
        x.squeeze(1);
        x.times(0, 0);
        T.due("of no other call", Due.outcome(x), failed);
        T.due("the last number", x.run(6, 5, 0, 0, 0, 1), 59);
        T.due("of what was done", Due.outcome(x), "0 64 1 -9 0");
        x.run(0, 9, 9, 0, 0, 0);
        x.call(0, 9, 9, 0, 0, 0);
        x.play(0);
        T.due("not of what was refused by FULL", Due.outcome(x), "0 64 1 -9 0");
    }

    private static void outcomeChanged() {
        T.of("1 KNOTS whose WOOL in some LAYER is another one than ahead of it");
        TapestryDesk x = new TapestryDesk();
        x.cloth(10, 10);
        x.macro(EACH, 0, 0, 0);
        x.part(0, x.bind(x.handle(6), 4, 5), 5, 0, 0, 0);
        x.play(0);
        T.due("all, each once", x.outcome(1), 100);
        x.play(0);
        T.due("none is another one now", x.outcome(1), 0);
        int shift = x.handle(5);
        x.macro(IN_TURN, 0, 0, 0);
        x.part(1, x.handle(0), 3, 3, 0, 0);
        x.part(1, x.bind(x.handle(0), 4, 5), 3, 3, 0, 0);
        x.play(1);
        T.due("another one, and back", x.outcome(1), 0);
        x.run(12, 2, 0, 0, 0, 0);
        x.run(11, 2, 0, 0, 0, 0);
        x.run(0, 9, 9, 0, 0, 4);
        T.due("in a layer that is not shown", x.outcome(1), 1);
        x.call(shift, 0, 1, 0, 0, 0);
        T.due("one that moves: two", x.outcome(1), 2);
        x.call(shift, 10, -20, 0, 0, 0);
        T.due("round and back: none", x.outcome(1), 0);
        x.run(0, 3, 3, 0, 0, 7);
        x.call(shift, 21, 0, 0, 0, 0);
        T.due("none of what failed", x.outcome(1), 0);
    }

    private static void outcomeDone() {
        T.of("2 COMMANDS that were done, with the one that failed");
        TapestryDesk x = new TapestryDesk();
        x.macro(IN_TURN, 0, 0, 0);
        x.part(0, x.handle(11), 3, 0, 0, 0);
        T.due("play(0)", x.play(0), FAILED);
        T.due("the first failed", x.outcome(2), 1);
        x.macro(IN_TURN, 0, 0, 0);
        for (int i = 0; i < 7; i++) {
            x.part(1, 0, 0, 0, 0, 0);
        }
        T.due("play(1)", x.play(1), 1);
        T.due("seven done", x.outcome(2), 7);
        x.part(1, 0, 3, 0, 0, 0);
        T.due("play(1)", x.play(1), FAILED);
        T.due("the eighth failed", x.outcome(2), 8);
        x.run(11, 0, 0, 0, 0, 0);
        T.due("a run is one", x.outcome(2), 1);
    }

    private static void outcomeKind() {
        T.of("3 the KIND of that (NONE: none failed, or LONG)");
        for (int kind = 0; kind <= 12; kind++) {
            TapestryDesk x = new TapestryDesk();
            x.run(kind, MOST, MOST, MOST, MOST, MOST);
            T.due("kind " + kind, x.outcome(3), kind);
            x.run(11, 0, 0, 0, 0, 0);
            T.due("none failed", x.outcome(3), TapestryDesk.NONE);
        }
        TapestryDesk x = longOne(9);
        x.run(0, 9, 9, 0, 0, 0);
        T.due("SPOT", x.outcome(3), 0);
        x.play(2);
        T.due("long", x.outcome(0), LONG);
        T.due("of LONG", x.outcome(3), TapestryDesk.NONE);
    }

    private static void outcomeDepth() {
        T.of("4 in how many MACROS in one another it was, or the PART would have been, that failed (0: none failed, or no MACRO).");
        TapestryDesk x = new TapestryDesk();
        x.handle(11);
        x.macro(IN_TURN, 0, 0, 0);
        x.part(0, 0, 3, 0, 0, 0);
        for (int i = 1; i < 20; i++) {
            x.macro(IN_TURN, 0, 0, 0);
            x.nest(i, i - 1);
        }
        for (int i = 0; i < 20; i++) {
            T.due("play(" + i + ")", x.play(i), FAILED);
            T.due("in so many", Due.outcome(x), "1 0 1 11 " + (i + 1));
        }
        x.run(11, 3, 0, 0, 0, 0);
        T.due("a run is in none", x.outcome(4), 0);
        x.play(0);
        x.call(0, 3, 0, 0, 0, 0);
        T.due("a call is in none", x.outcome(4), 0);
        x.play(0);
        x.run(11, 0, 0, 0, 0, 0);
        T.due("none failed", x.outcome(4), 0);
    }
}
