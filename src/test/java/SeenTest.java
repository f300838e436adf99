/** Promises 10 to 22: what was seen, the rider. */
final class SeenTest {
    private static final int BAD = BurstValley.BAD;
    private static final int FULL = BurstValley.FULL;
    private static final int NONE = BurstValley.NONE;

    public static void main(String[] args) {
        clock();
        clockLets();
        mark();
        word();
        rowsAreFull();
        tear();
        sidesAndDoubts();
        letsRefuses();
        possible();
        hangs();
        sure();
        could();
        told();
        Check.finish("SeenTest");
    }

    /** WAY 0 lets 100 go at START: DEPTH of REACH 0 is 10 then, REACH 1 has 5 in the next MINUTE. */
    private static BurstValley burst() {
        BurstValley x = new BurstValley();
        x.pond(100);
        ValleyTest.tellTable(x, 0, 100);
        return x;
    }

    private static void clock() {
        BurstValley x = new BurstValley();
        int[][] wrong = {{-1, 1, 0, 9}, {12, 1, 0, 9}, {0, 0, 0, 9}, {0, 100, 0, 9}, {0, 1, -1, 9}, {0, 1, 180, 9},
            {0, 1, 0, -1}, {0, 1, 0, 19}, {0, 1, 0, 99}, {0, 1, 0, 919}, {0, 1, 0, 1000}, {0, 1, 0, -91}};
        for (int[] w : wrong) {
            Check.due("clock refused", x.clock(w[0], w[1], w[2], w[3]), BAD);
        }
        int[][] right = {{0, 1, 0, 0}, {11, 99, 179, 918}, {0, 1, 0, 18}, {0, 1, 0, 900}};
        for (int i = 0; i < right.length; i++) {
            Check.due("clock", x.clock(right[i][0], right[i][1], right[i][2], right[i][3]), i);
        }
        Check.due("many(2)", x.many(2), 4);
    }

    private static void clockLets() {
        BurstValley x = burst();
        x.clock(0, 10, 20, 9);
        Check.due("just then", x.lets(0, 0, 20), 1);
        Check.due("1 off", x.lets(0, 0, 21), 0);
        Check.due("1 off", x.lets(0, 0, 19), 0);
        x.clock(0, 11, 20, 909);
        Check.due("never so high", x.lets(1, 0, 20), 0);
        x.clock(0, 10, 20, 9 + 4);
        Check.due("FAST by 4: it was 16", x.lets(2, 0, 16), 1);
        Check.due("not 20", x.lets(2, 0, 20), 0);
        x.clock(0, 10, 20, 9 - 4);
        Check.due("slow by 4: it was 24", x.lets(3, 0, 24), 1);
        Check.due("not 16", x.lets(3, 0, 16), 0);
        x.clock(1, 5, 20, 209);
        int[] starts = {16, 17, 19, 21, 22};
        int[] due = {0, 1, 1, 1, 0};
        for (int i = 0; i < starts.length; i++) {
            Check.due("give or take 2, in REACH 1", x.lets(4, 0, starts[i]), due[i]);
        }
        Check.due("a dry WAY", x.lets(4, 1, 19), 0);
        x.clock(0, 10, 0, 9 + 9);
        Check.due("a MINUTE ahead of the NIGHT", x.lets(5, 0, 0), 0);
    }

    private static void mark() {
        BurstValley x = burst();
        int[][] wrong = {{-1, 0, 5}, {12, 0, 5}, {0, -1, 5}, {0, 0, 1000}, {0, 5, 4}, {0, 1000, 1000}, {0, -2, -1}};
        for (int[] w : wrong) {
            Check.due("mark refused", x.mark(w[0], w[1], w[2]), BAD);
        }
        int[][] right = {{0, 10, 10}, {0, 0, 9}, {0, 11, 999}, {1, 5, 6}, {11, 0, 999}, {0, 999, 999}};
        int[] due = {1, 0, 0, 1, 1, 0};
        for (int i = 0; i < right.length; i++) {
            Check.due("mark", x.mark(right[i][0], right[i][1], right[i][2]), i);
            Check.due("lets " + i, x.lets(i, 0, 29), due[i]);
        }
        Check.due("0 on a dry NIGHT", x.lets(1, 2, 0), 1);
        Check.due("not 10", x.lets(0, 2, 0), 0);
        x.pond(9999);
        x.reach(0, 1, 9);
        ValleyTest.tellTable(x, 0, 999);
        Check.due("above 999", x.lets(2, 0, 0), 0);
    }

    private static void word() {
        BurstValley x = new BurstValley();
        int[][] wrong = {{-1, 1, 0, 0}, {4, 1, 0, 0}, {0, 0, 0, 0}, {0, 8, 0, 0}, {0, -1, 0, 0}, {0, 1, -1, 0},
            {0, 1, 0, 30}, {0, 1, 5, 4}, {0, 1, 30, 30}};
        for (int[] w : wrong) {
            Check.due("word refused", x.word(w[0], w[1], w[2], w[3]), BAD);
        }
        Check.due("word", x.word(3, 5, 3, 7), 0);
        int[][] nights = {{0, 3, 1}, {0, 7, 1}, {0, 2, 0}, {0, 8, 0}, {1, 5, 0}, {2, 5, 1}};
        for (int[] n : nights) {
            Check.due("lets " + n[0] + " " + n[1], x.lets(0, n[0], n[1]), n[2]);
        }
        Check.due("possible", x.possible(-1), 10);
    }

    private static void rowsAreFull() {
        BurstValley x = new BurstValley();
        for (int i = 0; i < 16; i++) {
            Check.due("row", i % 3 == 0 ? x.clock(0, 1, 0, 9) : i % 3 == 1 ? x.mark(0, 0, 0) : x.word(0, 1, 0, 0), i);
        }
        Check.due("clock", x.clock(0, 1, 0, 9), FULL);
        Check.due("mark", x.mark(0, 0, 0), FULL);
        Check.due("word", x.word(0, 1, 0, 0), FULL);
        Check.due("BAD ahead of FULL", x.clock(12, 1, 0, 9), BAD);
        Check.due("BAD ahead of FULL", x.mark(0, 1, 0), BAD);
        Check.due("BAD ahead of FULL", x.word(0, 0, 0, 0), BAD);
        Check.due("many(2)", x.many(2), 16);
    }

    private static void tear() {
        BurstValley x = new BurstValley();
        Check.due("none yet", x.tear(0, true), BAD);
        x.word(0, 1, 5, 5);
        x.word(0, 1, 5, 6);
        Check.due("below", x.tear(-1, true), BAD);
        Check.due("above", x.tear(2, true), BAD);
        Check.due("isn't TORN", x.tear(0, false), 0);
        Check.due("possible", x.possible(-1), 1);
        Check.due("TORN", x.tear(0, true), 1);
        Check.due("TORN already", x.tear(0, true), 0);
        Check.due("many(3)", x.many(3), 1);
        Check.due("possible", x.possible(-1), 2);
        Check.due("lets all the same", x.lets(0, 0, 6), 0);
        Check.due("not TORN", x.tear(0, false), 1);
        Check.due("possible", x.possible(-1), 1);
        Check.due("many(3)", x.many(3), 0);
    }

    private static void sidesAndDoubts() {
        BurstValley x = new BurstValley();
        int[][] wrong = {{-1, 0}, {4, 0}, {0, -1}, {0, 3}};
        for (int[] w : wrong) {
            Check.due("side refused", x.side(w[0], w[1]), BAD);
        }
        Check.due("side", x.side(3, 2), 0);
        Check.due("side", x.side(3, 1), 2);
        Check.due("side", x.side(0, 1), 0);
        Check.due("side", x.side(0, 0), 1);
        Check.due("side", x.side(0, 1), 0);
        Check.due("doubt", x.doubt(-1, true), BAD);
        Check.due("doubt", x.doubt(3, true), BAD);
        x.word(3, 1, 0, 29);
        x.word(1, 3, 0, 9);
        Check.due("possible", x.possible(-1), 10);
        Check.due("of SIDE 1", x.doubt(1, true), 2);
        Check.due("possible", x.possible(-1), 20);
        Check.due("of SIDE 2", x.doubt(2, true), 0);
        Check.due("of none", x.doubt(0, true), 2);
        Check.due("possible", x.possible(-1), 90);
        Check.due("lets all the same", x.lets(1, 2, 0), 0);
        Check.due("changes SIDES", x.side(3, 2), 1);
        Check.due("DOUBTED stays", x.possible(-1), 90);
        Check.due("of SIDE 1 now", x.doubt(1, false), 1);
        Check.due("still DOUBTED", x.possible(-1), 90);
        Check.due("of SIDE 2 now", x.doubt(2, false), 1);
        Check.due("not any more", x.possible(-1), 30);
    }

    private static void letsRefuses() {
        BurstValley x = new BurstValley();
        x.word(0, 7, 0, 29);
        int[][] wrong = {{-1, 0, 0}, {1, 0, 0}, {0, -1, 0}, {0, 3, 0}, {0, 0, -1}, {0, 0, 30}};
        for (int[] w : wrong) {
            Check.due("lets refused", x.lets(w[0], w[1], w[2]), BAD);
        }
    }

    private static void possible() {
        BurstValley x = burst();
        Check.due("all", x.possible(-1), 90);
        Check.due("of one", x.possible(2), 30);
        Check.due("below", x.possible(-2), BAD);
        Check.due("above", x.possible(3), BAD);
        Check.due("span", x.span(-1, false), BAD);
        Check.due("span", x.span(3, false), BAD);
        Check.due("first", x.span(1, false), 0);
        Check.due("last", x.span(1, true), 29);
        x.clock(0, 10, 20, 309);
        Check.due("by the CLOCK", x.possible(-1), 7);
        Check.due("first", x.span(0, false), 17);
        Check.due("last", x.span(0, true), 23);
        Check.due("none", x.span(1, false), NONE);
        Check.due("none", x.possible(1), 0);
        x.word(0, 7, 22, 29);
        Check.due("all ROWS", x.possible(0), 2);
        Check.due("first", x.span(0, false), 22);
        x.word(1, 7, 0, 22);
        Check.due("one alone", x.span(0, true), 22);
        x.tear(2, true);
        x.pond(99);
        Check.due("when THE POND changes", x.possible(-1), 0);
        x.pond(100);
        Check.due("and back", x.possible(-1), 2);
        x.gate(99, 0);
        Check.due("when the valley changes", x.possible(-1), 0);
        x.gate(0, 0);
        x.mark(1, 6, 9);
        Check.due("no DEPTH of 6", x.possible(-1), 0);
        BurstValley y = burst();
        y.word(0, 7, 0, 0);
        for (int way = 0; way < 3; way++) {
            Check.due("of each WAY one", y.possible(way), 1);
            Check.due("the first START", y.span(way, true), 0);
        }
        x.reach(1, 8, 2);
        Check.due("50 by 8 is 6", x.possible(-1), 2);
    }

    private static void hangs() {
        BurstValley x = burst();
        Check.due("none yet", x.hangs(0), BAD);
        x.clock(0, 10, 20, 309);
        Check.due("all others", x.hangs(0), 83);
        x.word(0, 1, 18, 29);
        Check.due("of the WORD alone", x.hangs(1), 1);
        Check.due("of the CLOCK alone", x.hangs(0), 12 - 6);
        x.mark(0, 0, 999);
        Check.due("nothing", x.hangs(2), 0);
        x.tear(1, true);
        Check.due("TORN", x.hangs(1), 0);
        x.tear(1, false);
        x.doubt(0, true);
        Check.due("DOUBTED", x.hangs(1), 0);
        Check.due("the CLOCK again", x.hangs(0), 83);
        Check.due("below", x.hangs(-1), BAD);
        Check.due("above", x.hangs(3), BAD);
    }

    private static void sure() {
        BurstValley x = burst();
        Check.due("none yet", x.sure(0), BAD);
        x.house(0, 10, 0);
        x.house(0, 11, 0);
        Check.due("in some", x.sure(0), 1);
        Check.due("in none", x.sure(1), 0);
        x.word(0, 1, 0, 29);
        Check.due("in each", x.sure(0), 2);
        Check.due("in none", x.sure(1), 0);
        x.word(1, 2, 0, 29);
        Check.due("none is POSSIBLE", x.sure(0), 0);
        Check.due("below", x.sure(-1), BAD);
        Check.due("above", x.sure(2), BAD);
    }

    private static void could() {
        BurstValley x = burst();
        x.house(1, 99, 0);
        x.house(0, 99, 0);
        x.house(1, 99, 0);
        x.house(3, 99, 0);
        // REACH 0 is wet in START, 1 in the next MINUTE, 3 two later (12 by 10).
        Check.due("depth", x.depth(0, 20, 3, 23), 1);
        Check.due("all in time", x.could(0, 20, 0, 0, 100, 0), 15);
        Check.due("just in time everywhere", x.could(0, 20, 20, 0, 100, 0), 15);
        Check.due("a MINUTE late everywhere", x.could(0, 20, 21, 0, 100, 0), 0);
        Check.due("FLEE of 1", x.could(0, 20, 19, 0, 100, 1), 15);
        Check.due("FLEE of 2", x.could(0, 20, 19, 0, 100, 2), 0);
        // 1 MINUTE at each: HOUSE 1 at 18, HOUSE 0 at 20, HOUSE 2 at 21, HOUSE 3 at 24.
        Check.due("STOPS", x.could(0, 20, 17, 0, 110, 0), 0b0111);
        Check.due("STOPS, FLEE of 1", x.could(0, 20, 17, 0, 110, 1), 0b0011);
        Check.due("the last digit counts nothing", x.could(0, 20, 17, 0, 119, 1), 0b0011);
        Check.due("PACE of 2", x.could(0, 20, 18, 0, 200, 0), 0b0111);
        Check.due("none above", x.could(0, 20, 0, 1, 100, 0), 0b1101);
        Check.due("none at all", x.could(0, 20, 0, 4, 100, 0), 0);
        Check.due("never wet", x.could(1, 0, 179, 0, 999, 30), 15);
        int[][] wrong = {{-1, 0, 0, 0, 100, 0}, {3, 0, 0, 0, 100, 0}, {0, -1, 0, 0, 100, 0}, {0, 30, 0, 0, 100, 0},
            {0, 0, -1, 0, 100, 0}, {0, 0, 180, 0, 100, 0}, {0, 0, 0, -1, 100, 0}, {0, 0, 0, 12, 100, 0},
            {0, 0, 0, 0, 99, 0}, {0, 0, 0, 0, 1000, 0}, {0, 0, 0, 0, -100, 0}, {0, 0, 0, 0, 100, -1},
            {0, 0, 0, 0, 100, 31}};
        for (int[] w : wrong) {
            Check.due("could refused", x.could(w[0], w[1], w[2], w[3], w[4], w[5]), BAD);
        }
    }

    private static void told() {
        BurstValley x = burst();
        x.house(0, 99, 0);
        x.house(2, 99, 0);
        x.word(0, 1, 10, 12);
        Check.due("ahead of the first START", x.told(10, 0, 100, 0), 3);
        Check.due("too late for one of them", x.told(11, 0, 100, 0), 0);
        Check.due("up to the second HOUSE faster", x.told(11, 1, 100, 0), 2);
        Check.due("FLEE of 30", x.told(0, 0, 100, 30), 0);
        x.word(1, 2, 0, 29);
        Check.due("none is POSSIBLE", x.told(0, 0, 100, 0), 0);
        x.tear(0, true);
        Check.due("never wet", x.told(179, 0, 999, 30), 3);
        int[][] wrong = {{-1, 0, 100, 0}, {180, 0, 100, 0}, {0, -1, 100, 0}, {0, 12, 100, 0}, {0, 0, 99, 0},
            {0, 0, 1000, 0}, {0, 0, 100, -1}, {0, 0, 100, 31}};
        for (int[] w : wrong) {
            Check.due("told refused", x.told(w[0], w[1], w[2], w[3]), BAD);
        }
    }
}
