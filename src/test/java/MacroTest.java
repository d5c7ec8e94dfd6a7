/** Promises 13 to 18: macro, part, nest, times, play, outcome. */
public final class MacroTest {
    private static final Due T = new Due();
    private static final int LEAST = Integer.MIN_VALUE, MOST = Integer.MAX_VALUE;
    private static final int IN_TURN = 0, REPEAT = 1, IF = 2, EACH = 3;

    public static void main(String[] args) {
        macro();
        macroBad();
        part();
        nest();
        times();
        inTurn();
        repeat();
        ifs();
        ifLooksAsItBegins();
        each();
        eachInEach();
        playRefused();
        longOfCommands();
        longOfMacros();
        failureInside();
        outcomeStays();
        deep();
        T.end();
    }

    private static void macro() {
        TapestryDesk x = new TapestryDesk();
        for (int i = 0; i < 20; i++) {
            T.due("macro " + i, x.macro(i % 4, 9, 0, 9), i);
        }
        T.due("macro when full", x.macro(IN_TURN, 0, 0, 0), TapestryDesk.FULL);
        T.due("bad macro when full", x.macro(REPEAT, 10, 0, 0), TapestryDesk.BAD);
        T.due("about(6)", x.about(6), 20);
    }

    private static void macroBad() {
        TapestryDesk x = new TapestryDesk();
        int[][] bad = {{-1, 0, 0, 0}, {4, 0, 0, 0}, {LEAST, 0, 0, 0}, {MOST, 0, 0, 0},
            {REPEAT, -1, 0, 0}, {REPEAT, 10, 0, 0}, {IF, -1, 0, 0}, {IF, 10, 0, 0}, {IF, 0, -1, 0}, {IF, 0, 10, 0},
            {IF, 0, 0, -1}, {IF, 0, 0, 10}, {IF, LEAST, 0, 0}, {IF, 0, MOST, 0}, {IF, 0, 0, MOST}};
        for (int[] v : bad) {
            T.due("macro(" + v[0] + ", " + v[1] + ", " + v[2] + ", " + v[3] + ")",
                    x.macro(v[0], v[1], v[2], v[3]), TapestryDesk.BAD);
        }
        T.due("about(6)", x.about(6), 0);
        int[][] good = {{IN_TURN, -1, 10, MOST}, {EACH, LEAST, 10, -1}, {REPEAT, 0, -1, 10}, {REPEAT, 9, MOST, LEAST},
            {IF, 0, 0, 0}, {IF, 9, 9, 9}};
        for (int i = 0; i < good.length; i++) {
            T.due("good macro " + i, x.macro(good[i][0], good[i][1], good[i][2], good[i][3]), i);
        }
    }

    private static void part() {
        TapestryDesk x = new TapestryDesk();
        x.handle(0);
        x.macro(IN_TURN, 0, 0, 0);
        int[][] bad = {{-1, 0}, {1, 0}, {0, -1}, {0, 1}, {LEAST, 0}, {0, MOST}};
        for (int[] v : bad) {
            T.due("part(" + v[0] + ", " + v[1] + ")", x.part(v[0], v[1], 0, 0, 0, 0), TapestryDesk.BAD);
        }
        for (int i = 1; i <= 8; i++) {
            T.due("part " + i, x.part(0, 0, 0, i - 1, 0, 0), i);
        }
        T.due("part 9", x.part(0, 0, 0, 0, 0, 0), TapestryDesk.FULL);
        T.due("bad part 9", x.part(0, 1, 0, 0, 0, 0), TapestryDesk.BAD);
        x.play(0);
        T.due("eight are done", x.outcome(2), 8);
        T.due("spots of wool 0 paint nothing", x.outcome(1), 0);
    }

    private static void nest() {
        TapestryDesk x = new TapestryDesk();
        x.handle(0);
        x.macro(IN_TURN, 0, 0, 0);
        x.macro(IN_TURN, 0, 0, 0);
        x.macro(IN_TURN, 0, 0, 0);
        int[][] bad = {{0, 0}, {0, 1}, {1, 1}, {1, 2}, {3, 0}, {1, -1}, {-1, -2}, {0, 3}, {MOST, 0}, {2, LEAST}, {3, 3}};
        for (int[] v : bad) {
            T.due("nest(" + v[0] + ", " + v[1] + ")", x.nest(v[0], v[1]), TapestryDesk.BAD);
        }
        T.due("part(0)", x.part(0, 0, 0, 0, 0, 0), 1);
        T.due("part(2)", x.part(2, 0, 0, 0, 0, 0), 1);
        for (int i = 2; i <= 8; i++) {
            T.due("nest(2, " + i % 2 + ")", x.nest(2, i % 2), i);
        }
        T.due("nest(2) when full", x.nest(2, 1), TapestryDesk.FULL);
        T.due("bad nest(2) when full", x.nest(2, 2), TapestryDesk.BAD);
        T.due("part(2) when full", x.part(2, 0, 0, 0, 0, 0), TapestryDesk.FULL);
        x.play(2);
        T.due("five are done", x.outcome(2), 5);
    }

    private static void times() {
        TapestryDesk x = new TapestryDesk();
        x.macro(IN_TURN, 3, 0, 0);
        x.macro(REPEAT, 3, 0, 0);
        x.macro(IF, 3, 0, 0);
        x.macro(EACH, 3, 0, 0);
        int[][] bad = {{0, 1}, {2, 1}, {3, 1}, {4, 1}, {-1, 1}, {1, -1}, {1, 10}, {1, LEAST}, {1, MOST}, {MOST, 1}};
        for (int[] v : bad) {
            T.due("times(" + v[0] + ", " + v[1] + ")", x.times(v[0], v[1]), TapestryDesk.BAD);
        }
        T.due("times(1, 9)", x.times(1, 9), 3);
        T.due("times(1, 0)", x.times(1, 0), 9);
        T.due("times(1, 4)", x.times(1, 4), 0);
        x.handle(5);
        x.part(1, 0, 1, 0, 0, 0);
        x.play(1);
        T.due("four are done", x.outcome(2), 4);
    }

    private static void inTurn() {
        TapestryDesk x = new TapestryDesk();
        x.cloth(2, 3);
        int red = x.bind(x.handle(0), 4, 3);
        int border = x.bind(x.handle(6), 4, 5);
        x.macro(IN_TURN, 0, 0, 0);
        T.due("a macro of none is a node", x.play(0), 1);
        T.due("nothing was done", x.outcome(2), 0);
        x.part(0, border, 1, 77, 77, 77);
        x.part(0, red, 0, 1, 77, 77);
        x.part(0, red, 1, 2, 77, 77);
        T.due("play(0)", x.play(0), 2);
        T.due("in order", Due.picture(x, 0), "535/553");
        T.due("outcome(0)", x.outcome(0), 0);
        T.due("outcome(1)", x.outcome(1), 6);
        T.due("outcome(2)", x.outcome(2), 3);
        T.due("outcome(3)", x.outcome(3), TapestryDesk.NONE);
        T.due("outcome(4)", x.outcome(4), 0);
        T.due("trace()", x.trace(), 10011 + 2 * 1011);
        T.due("play(0) again", x.play(0), 3);
        T.due("no knot is another one", x.outcome(1), 0);
        T.due("told(3, 0)", x.told(3, 0), 2);
        x.part(0, x.handle(0), 0, 0, 1, 1);
        x.play(0);
        T.due("a fifth number is 0", Due.picture(x, 0), "035/553");
    }

    private static void repeat() {
        TapestryDesk x = Due.desk("1234567");
        x.handle(5);
        x.macro(REPEAT, 3, 0, 0);
        x.part(0, 0, 0, 1, 0, 0);
        x.play(0);
        T.due("three times", Due.picture(x, 0), "5671234");
        x.times(0, 0);
        x.play(0);
        T.due("no times", Due.picture(x, 0), "5671234");
        T.due("none done", x.outcome(2), 0);
        x.times(0, 9);
        x.play(0);
        T.due("nine times", Due.picture(x, 0), "3456712");
        T.due("nine done", x.outcome(2), 9);
    }

    private static void ifs() {
        TapestryDesk x = Due.desk("120/004");
        int red = x.bind(x.handle(0), 4, 3);
        int[][] ifs = {{0, 0, 1}, {0, 1, 1}, {0, 2, 0}, {1, 2, 4}, {2, 0, 0}, {0, 3, 0}, {9, 9, 0}};
        int[] done = {1, 0, 1, 1, 0, 0, 0};
        for (int i = 0; i < ifs.length; i++) {
            int macro = x.macro(IF, ifs[i][0], ifs[i][1], ifs[i][2]);
            x.part(macro, red, 1, 0, 0, 0);
            int node = x.about(8);
            T.due("play(" + macro + ")", x.play(macro), node);
            T.due("if " + i, x.outcome(2), done[i]);
            x.undo();
        }
        x.run(11, 2, 0, 0, 0, 0);
        x.run(0, 0, 0, 0, 0, 8);
        x.play(0);
        T.due("another wool is seen", x.outcome(2), 0);
        x.run(12, 2, 0, 0, 0, 0);
        x.play(0);
        T.due("and is not shown", x.outcome(2), 1);
    }

    private static void ifLooksAsItBegins() {
        TapestryDesk x = new TapestryDesk();
        x.cloth(1, 2);
        int red = x.bind(x.handle(0), 4, 3);
        x.macro(IF, 0, 0, 0);
        x.part(0, red, 0, 0, 0, 0);
        x.part(0, red, 0, 1, 0, 0);
        x.macro(REPEAT, 5, 0, 0);
        x.nest(1, 0);
        x.play(1);
        T.due("all of it once, then no more", x.outcome(2), 2);
        T.due("both", Due.picture(x, 0), "33");
    }

    private static void each() {
        TapestryDesk x = new TapestryDesk();
        x.cloth(1, 3);
        int spot = x.bind(x.handle(0), 4, 3);
        int use = x.handle(11);
        x.run(11, 1, 0, 0, 0, 0);
        x.macro(EACH, 0, 0, 0);
        T.due("each of none", x.play(0), 2);
        T.due("in use stays", x.about(2), 1);
        x.part(0, spot, 0, 0, 0, 0);
        x.part(0, use, 2, 0, 0, 0);
        x.part(0, spot, 0, 1, 0, 0);
        T.due("play(0)", x.play(0), 3);
        T.due("layer 0", Due.picture(x, 0), "300");
        T.due("layer 1", Due.picture(x, 1), "300");
        T.due("layer 2", Due.picture(x, 2), "330");
        T.due("in use as it began", x.about(2), 1);
        T.due("outcome(1)", x.outcome(1), 2);
        T.due("outcome(2)", x.outcome(2), 9);
        x.macro(IN_TURN, 0, 0, 0);
        x.nest(1, 0);
        x.part(1, spot, 0, 2, 0, 0);
        x.play(1);
        T.due("behind each, in use is as it was", Due.picture(x, 1), "303");
        T.due("in use alone", Due.picture(x, 2), "330");
    }

    private static void eachInEach() {
        TapestryDesk x = new TapestryDesk();
        x.cloth(1, 2);
        int shift = x.handle(5);
        int spot = x.bind(x.handle(0), 4, 3);
        x.macro(EACH, 0, 0, 0);
        x.part(0, shift, 0, 1, 0, 0);
        x.macro(EACH, 0, 0, 0);
        x.nest(1, 0);
        x.part(1, spot, 0, 0, 0, 0);
        x.play(1);
        T.due("layer 0 is shifted twice", Due.picture(x, 0), "30");
        T.due("layer 1 once", Due.picture(x, 1), "03");
        T.due("layer 2", Due.picture(x, 2), "30");
        T.due("outcome(2)", x.outcome(2), 12);
        T.due("in use", x.about(2), 0);
    }

    private static void playRefused() {
        TapestryDesk x = new TapestryDesk();
        x.macro(IN_TURN, 0, 0, 0);
        for (int macro : new int[] {-1, 1, LEAST, MOST}) {
            T.due("play(" + macro + ")", x.play(macro), TapestryDesk.BAD);
        }
        for (int i = 1; i < 60; i++) {
            T.due("play " + i, x.play(0), i);
        }
        x.part(0, x.handle(0), 77, 0, 0, 0);
        T.due("play when full", x.play(0), TapestryDesk.FULL);
        T.due("bad play when full", x.play(1), TapestryDesk.BAD);
        T.due("outcome(0)", x.outcome(0), 0);
        T.due("trace()", x.trace(), 0);
    }

    /** A desk with macro 1: it calls macro 0 six times, outer times over, and that one shifts inner times. */
    private static TapestryDesk tower(int inner, int outer) {
        TapestryDesk x = new TapestryDesk();
        int shift = x.handle(5);
        x.macro(REPEAT, inner, 0, 0);
        x.part(0, shift, 0, 1, 0, 0);
        x.macro(REPEAT, outer, 0, 0);
        for (int i = 0; i < 6; i++) {
            x.nest(1, 0);
        }
        return x;
    }

    private static void longOfCommands() {
        TapestryDesk x = tower(9, 5);
        T.due("300 parts", x.play(1), 1);
        T.due("270 commands", x.outcome(2), 270);
        x.part(1, 0, 0, 1, 0, 0);
        x.times(1, 4);
        T.due("244 parts", x.play(1), 2);
        x.times(1, 5);
        long trace = x.trace();
        long digest = x.digest();
        T.due("305 parts", x.play(1), TapestryDesk.FAILED);
        T.due("outcome(0)", x.outcome(0), 5);
        T.due("outcome(1)", x.outcome(1), 0);
        T.due("outcome(2)", x.outcome(2), 270);
        T.due("outcome(3)", x.outcome(3), TapestryDesk.NONE);
        T.due("outcome(4)", x.outcome(4), 2);
        T.due("trace()", x.trace() - trace, 270 * 10011);
        T.due("digest()", x.digest(), digest);
        T.due("node()", x.node(), 2);
        x = tower(9, 5);
        x.macro(IN_TURN, 0, 0, 0);
        x.nest(2, 1);
        T.due("301 parts", x.play(2), TapestryDesk.FAILED);
        T.due("outcome(2)", x.outcome(2), 269);
        T.due("outcome(4)", x.outcome(4), 3);
        x = tower(9, 5);
        x.macro(IN_TURN, 0, 0, 0);
        T.due("a play counts its own parts alone", x.play(1), 1);
        T.due("once more", x.play(1), 2);
    }

    private static void longOfMacros() {
        TapestryDesk x = tower(9, 5);
        x.times(0, 4);
        x.times(1, 9);
        T.due("270 parts", x.play(1), 1);
        T.due("216 commands", x.outcome(2), 216);
        x.macro(IN_TURN, 0, 0, 0);
        x.macro(REPEAT, 9, 0, 0);
        for (int i = 0; i < 8; i++) {
            x.nest(3, 2);
        }
        x.macro(IN_TURN, 0, 0, 0);
        for (int i = 0; i < 5; i++) {
            x.nest(4, 3);
        }
        T.due("five times 73 parts", x.play(4), TapestryDesk.FAILED);
        T.due("outcome(0)", x.outcome(0), 5);
        T.due("outcome(2)", x.outcome(2), 0);
        T.due("outcome(3)", x.outcome(3), TapestryDesk.NONE);
        T.due("the macro would have been in two", x.outcome(4), 2);
    }

    private static void failureInside() {
        TapestryDesk x = new TapestryDesk();
        x.cloth(2, 2);
        int spot = x.bind(x.handle(0), 4, 3);
        int use = x.handle(11);
        int show = x.handle(12);
        int select = x.handle(9);
        x.run(11, 1, 0, 0, 0, 0);
        x.macro(IN_TURN, 0, 0, 0);
        x.part(0, spot, 0, 0, 0, 0);
        x.part(0, use, 2, 0, 0, 0);
        x.part(0, show, 0, 0, 0, 0);
        x.part(0, select, 0, 0, 1, 1);
        x.part(0, spot, 1, 2, 0, 0);
        x.part(0, spot, 1, 1, 0, 0);
        x.macro(EACH, 0, 0, 0);
        x.nest(1, 0);
        x.macro(IN_TURN, 0, 0, 0);
        x.part(2, spot, 0, 1, 0, 0);
        x.nest(2, 1);
        long digest = x.digest();
        long trace = x.trace();
        T.due("play(2)", x.play(2), TapestryDesk.FAILED);
        int[] want = {1, 0, 6, 0, 3};
        for (int what = 0; what < want.length; what++) {
            T.due("outcome(" + what + ")", x.outcome(what), want[what]);
        }
        T.due("trace()", x.trace() - trace, 2 * 1011 + 3 * 101 + 1000);
        T.due("digest()", x.digest(), digest);
        T.due("node()", x.node(), 1);
        T.due("about(8)", x.about(8), 2);
        T.due("about(2)", x.about(2), 1);
        T.due("play(0)", x.play(0), TapestryDesk.FAILED);
        T.due("outcome(4)", x.outcome(4), 1);
        T.due("outcome(2)", x.outcome(2), 5);
        T.due("digest()", x.digest(), digest);
    }

    private static void outcomeStays() {
        TapestryDesk x = new TapestryDesk();
        int[] first = {0, 0, 0, TapestryDesk.NONE, 0};
        for (int what = 0; what < first.length; what++) {
            T.due("outcome(" + what + ") at first", x.outcome(what), first[what]);
        }
        for (int what : new int[] {-1, 5, LEAST, MOST}) {
            T.due("outcome(" + what + ")", x.outcome(what), TapestryDesk.BAD);
        }
        x.handle(7);
        x.macro(IN_TURN, 0, 0, 0);
        x.part(0, 0, 1, 10, 0, 0);
        x.run(0, 0, 0, 0, 0, 1);
        T.due("play(0)", x.play(0), TapestryDesk.FAILED);
        int[] want = {2, 0, 1, 7, 1};
        x.run(13, 0, 0, 0, 0, 0);
        x.call(1, 0, 0, 0, 0, 0);
        x.play(1);
        x.undo();
        x.redo();
        x.go(0);
        x.cloth(0, 0);
        x.cloth(5, 5);
        for (int what = 0; what < want.length; what++) {
            T.due("outcome(" + what + ") stays", x.outcome(what), want[what]);
        }
        x.run(6, 1, 0, 0, 0, 1);
        int[] behind = {0, 16, 1, TapestryDesk.NONE, 0};
        for (int what = 0; what < behind.length; what++) {
            T.due("outcome(" + what + ") of the latest", x.outcome(what), behind[what]);
        }
        x.run(11, 2, 0, 0, 0, 0);
        T.due("no wool is another one", x.outcome(1), 0);
        x.run(0, 0, 0, 0, 0, 1);
        T.due("another one in a layer, seen alike", x.outcome(1), 1);
        x.run(0, 0, 0, 0, 0, 1);
        T.due("the same one", x.outcome(1), 0);
    }

    private static void deep() {
        TapestryDesk x = new TapestryDesk();
        int spot = x.handle(0);
        x.macro(IN_TURN, 0, 0, 0);
        x.part(0, spot, 8, 8, 0, 0);
        for (int i = 1; i < 20; i++) {
            x.macro(IN_TURN, 0, 0, 0);
            x.nest(i, i - 1);
        }
        T.due("play(19)", x.play(19), TapestryDesk.FAILED);
        T.due("in twenty macros", x.outcome(4), 20);
        T.due("outcome(2)", x.outcome(2), 1);
        x.cloth(9, 9);
        T.due("play(19)", x.play(19), 1);
        T.due("outcome(2)", x.outcome(2), 1);
    }
}
