/** Boundary cases of promises 10 to 22, sentence by sentence. */
final class EdgesSeenTest {
    private static final int BAD = BurstValley.BAD;
    private static final int FULL = BurstValley.FULL;
    private static final int NONE = BurstValley.NONE;

    public static void main(String[] args) {
        rangesOfRows();
        rangesOfEngineers();
        rangesOfRides();
        goesIsGiveAndFast();
        clockAtItsHeight();
        clockAtTheFirstMinute();
        clockByGive();
        clockByFast();
        clockBeyondTheNight();
        clockThatWaterNeverCameTo();
        markWithin();
        markOfTheGreatestDepth();
        markToTheEndOfTheNight();
        wordOfWays();
        wordOfStarts();
        sixteenRowsOfAllKinds();
        tornSaysNothing();
        sidesAtFirst();
        doubtedAreThoseOfTheSideNow();
        doubtedSayNothing();
        possibleWithoutRows();
        spanOfOneAndOfAll();
        hangsIsHowManyMore();
        sureInEachInSomeInNone();
        couldByFlee();
        couldByStops();
        couldByPace();
        couldWhereItNeverIsWet();
        couldFromItsReachOn();
        wetIsADepthOfOne();
        toldInEachPossibleNight();
        Check.finish("EdgesSeenTest");
    }

    private static void rangesOfRows() {
        Edges.range("REACH of a CLOCK", 0, 11, v -> new BurstValley().clock(v, 5, 5, 9));
        Edges.range("height", 1, 99, v -> new BurstValley().clock(5, v, 5, 9));
        Edges.range("MINUTE of a CLOCK", 0, 179, v -> new BurstValley().clock(5, 5, v, 9));
        Edges.range("REACH of a MARK", 0, 11, v -> new BurstValley().mark(v, 5, 5));
        Edges.range("from of a MARK", 0, 5, v -> new BurstValley().mark(5, v, 5));
        Edges.range("to of a MARK", 5, 999, v -> new BurstValley().mark(5, 5, v));
        Edges.range("both of a MARK", 0, 999, v -> new BurstValley().mark(5, v, v));
        Edges.range("ENGINEER", 0, 3, v -> new BurstValley().word(v, 1, 5, 5));
        Edges.range("WAYS", 1, 7, v -> new BurstValley().word(1, v, 5, 5));
        Edges.range("from of a WORD", 0, 5, v -> new BurstValley().word(1, 1, v, 5));
        Edges.range("to of a WORD", 5, 29, v -> new BurstValley().word(1, 1, 5, v));
        Edges.range("both of a WORD", 0, 29, v -> new BurstValley().word(1, 1, v, v));
        Edges.range("ROW torn", 0, 2, v -> threeRows().tear(v, true));
        Edges.range("ROW not torn", 0, 2, v -> threeRows().tear(v, false));
        Edges.range("ROW that lets", 0, 2, v -> threeRows().lets(v, 1, 5));
        Edges.range("WAY that it lets", 0, 2, v -> threeRows().lets(0, v, 5));
        Edges.range("START that it lets", 0, 29, v -> threeRows().lets(0, 1, v));
        Edges.range("ROW that hangs", 0, 2, v -> threeRows().hangs(v));
    }

    private static void rangesOfEngineers() {
        Edges.range("ENGINEER of a SIDE", 0, 3, v -> new BurstValley().side(v, 1));
        Edges.range("SIDE", 0, 2, v -> new BurstValley().side(1, v));
        Edges.range("SIDE doubted", 0, 2, v -> new BurstValley().doubt(v, true));
        Edges.range("SIDE not doubted", 0, 2, v -> new BurstValley().doubt(v, false));
        Edges.range("WAY of possible", -1, 2, v -> new BurstValley().possible(v));
        Edges.range("WAY of span", 0, 2, v -> new BurstValley().span(v, false));
        Edges.range("WAY of span", 0, 2, v -> new BurstValley().span(v, true));
        Edges.range("HOUSE", 0, 0, v -> threeRows().sure(v));
    }

    private static void rangesOfRides() {
        Edges.range("WAY", 0, 2, v -> threeRows().could(v, 5, 5, 5, 555, 5));
        Edges.range("START", 0, 29, v -> threeRows().could(1, v, 5, 5, 555, 5));
        Edges.range("MINUTE", 0, 179, v -> threeRows().could(1, 5, v, 5, 555, 5));
        Edges.range("REACH", 0, 11, v -> threeRows().could(1, 5, 5, v, 555, 5));
        Edges.range("rides", 100, 999, v -> threeRows().could(1, 5, 5, 5, v, 5));
        Edges.range("FLEE", 0, 30, v -> threeRows().could(1, 5, 5, 5, 555, v));
        Edges.range("MINUTE", 0, 179, v -> threeRows().told(v, 5, 555, 5));
        Edges.range("REACH", 0, 11, v -> threeRows().told(5, v, 555, 5));
        Edges.range("rides", 100, 999, v -> threeRows().told(5, 5, v, 5));
        Edges.range("FLEE", 0, 30, v -> threeRows().told(5, 5, 555, v));
    }

    private static BurstValley threeRows() {
        BurstValley x = new BurstValley();
        x.clock(0, 5, 5, 9);
        x.mark(0, 0, 0);
        x.word(0, 7, 0, 29);
        x.house(3, 9, 9);
        return x;
    }

    /** In each START of WAY 0 50 go down at once. REACH 0: 50, 25, 13, ..; REACH 1: 0, 25, 25, 19, .. */
    private static BurstValley burst() {
        BurstValley x = new BurstValley();
        for (int r = 0; r < 12; r++) {
            x.reach(r, 1, 2);
        }
        x.pond(50);
        Edges.table(x, 0, 50);
        return x;
    }

    private static void starts(String what, BurstValley x, int first, int last) {
        Check.due(what + ": first", x.span(0, false), first);
        Check.due(what + ": last", x.span(0, true), last);
        Check.due(what + ": all between", x.possible(0), first < 0 ? 0 : last - first + 1);
    }

    /** "goes: 100 times GIVE, and FAST and 9", GIVE 0 to 9, FAST -9 to 9 */
    private static void goesIsGiveAndFast() {
        for (int give = 0; give <= 9; give++) {
            int none = 100 * give;
            Check.due("FAST -9", new BurstValley().clock(0, 1, 5, none), 0);
            Check.due("FAST 9", new BurstValley().clock(0, 1, 5, none + 18), 0);
            Check.due("FAST 10", new BurstValley().clock(0, 1, 5, none + 19), BAD);
            Check.due("FAST 90", new BurstValley().clock(0, 1, 5, none + 99), BAD);
        }
        for (int goes : new int[] {-1, -82, -91, -100, 1000, 1018, Integer.MIN_VALUE, Integer.MAX_VALUE}) {
            Check.due("goes " + goes, new BurstValley().clock(0, 1, 5, goes), BAD);
        }
    }

    /** "in which DEPTH there is its height or more" */
    private static void clockAtItsHeight() {
        int[][] cases = {{0, 49, 12}, {0, 50, 12}, {0, 51, NONE}, {1, 25, 13}, {1, 26, NONE}, {0, 1, 12}, {0, 99, NONE}};
        for (int[] c : cases) {
            BurstValley x = burst();
            x.clock(c[0], c[1], 12, 9);
            int start = c[2] < 0 ? NONE : 24 - c[2];
            starts("height " + c[1] + " in REACH " + c[0], x, start, start);
        }
    }

    /** "the first MINUTE in which" */
    private static void clockAtTheFirstMinute() {
        BurstValley x = burst();
        x.pond(9999);
        Edges.table(x, 0, 40, 0, 0, 0, 0, 60, 0);
        x.clock(0, 30, 12, 9);
        starts("in the first rise", x, 12, 12);
        x.tear(0, true);
        x.clock(0, 41, 12, 9);
        starts("in the second rise", x, 7, 7);
    }

    /** "is by GIVE at most off" */
    private static void clockByGive() {
        for (int give = 0; give <= 9; give++) {
            BurstValley x = burst();
            x.clock(0, 50, 15, 100 * give + 9);
            starts("GIVE " + give, x, 15 - give, 15 + give);
            Check.due("just early", x.lets(0, 0, 15 - give), 1);
            Check.due("too early", x.lets(0, 0, 14 - give), 0);
            Check.due("just late", x.lets(0, 0, 15 + give), 1);
            Check.due("too late", x.lets(0, 0, 16 + give), 0);
        }
    }

    /** "its MINUTE less FAST" */
    private static void clockByFast() {
        for (int fast = -9; fast <= 9; fast++) {
            BurstValley x = burst();
            x.clock(0, 50, 15, fast + 9);
            starts("FAST " + fast, x, 15 - fast, 15 - fast);
            BurstValley y = burst();
            y.clock(0, 50, 15, 100 + fast + 9);
            starts("FAST " + fast + ", GIVE 1", y, 14 - fast, 16 - fast);
        }
    }

    private static void clockBeyondTheNight() {
        BurstValley x = burst();
        x.clock(0, 50, 0, 818);
        x.clock(0, 50, 0, 918);
        Check.due("9 FAST at MINUTE 0, GIVE 8", x.lets(0, 0, 0), 0);
        Check.due("GIVE 9", x.lets(1, 0, 0), 1);
        Check.due("GIVE 9", x.lets(1, 0, 1), 0);
        BurstValley y = burst();
        y.gate(50, 179);
        y.clock(0, 50, 179, 800);
        y.clock(0, 50, 179, 900);
        y.clock(0, 50, 179, 9);
        y.clock(1, 25, 179, 900);
        Check.due("9 slow at MINUTE 179, GIVE 8", y.lets(0, 1, 0), 0);
        Check.due("GIVE 9", y.lets(1, 1, 0), 1);
        Check.due("in MINUTE 179", y.lets(2, 1, 0), 1);
        Check.due("it would be in MINUTE 180", y.lets(3, 1, 0), 0);
    }

    /** "(no NIGHT, if there is none)" */
    private static void clockThatWaterNeverCameTo() {
        for (int fast = -9; fast <= 9; fast++) {
            BurstValley x = burst();
            x.clock(0, 1, 0, fast + 9);
            x.clock(0, 1, 0, 900 + fast + 9);
            x.clock(0, 1, 179, 900 + fast + 9);
            for (int row = 0; row < 3; row++) {
                Check.due("FAST " + fast, x.lets(row, 1, 0), 0);
                Check.due("FAST " + fast, x.lets(row, 2, 29), 0);
            }
        }
    }

    /** "A MARK lets one, if the greatest DEPTH is within." */
    private static void markWithin() {
        int[][] cases = {{50, 50, 1}, {0, 50, 1}, {50, 999, 1}, {0, 49, 0}, {51, 999, 0}, {0, 0, 0}, {999, 999, 0}, {0, 999, 1},
            {49, 51, 1}};
        for (int[] c : cases) {
            BurstValley x = burst();
            x.mark(0, c[0], c[1]);
            Check.due("mark " + c[0] + " to " + c[1], x.lets(0, 0, 5), c[2]);
            Check.due("dry", x.lets(0, 1, 5), c[0] == 0 ? 1 : 0);
        }
    }

    /** "the greatest DEPTH of the NIGHT there" */
    private static void markOfTheGreatestDepth() {
        BurstValley x = burst();
        x.pond(9999);
        Edges.table(x, 0, 40, 0, 0, 0, 0, 60, 0);
        x.mark(0, 62, 62);
        x.mark(0, 40, 61);
        x.mark(1, 32, 32);
        Check.due("of the second rise", x.lets(0, 0, 3), 1);
        Check.due("not of the first one", x.lets(1, 0, 3), 0);
        // REACH 1 has 20, 20, 15, 10, 6, and then 3 go and 31 come.
        Check.due("DEPTH of REACH 1", x.depth(0, 3, 1, 9), 34);
        Check.due("of another REACH", x.lets(2, 0, 3), 0);
        BurstValley y = burst();
        y.pond(9999);
        Edges.table(y, 0, 999);
        y.mark(0, 0, 999);
        Check.due("above all numbers", y.lets(0, 0, 0), 0);
        Check.due("999 alone", y.depth(0, 29, 0, 29), 999);
    }

    private static void markToTheEndOfTheNight() {
        BurstValley x = burst();
        x.gate(25, 179);
        x.mark(0, 25, 25);
        x.mark(0, 37, 37);
        x.mark(1, 0, 0);
        Check.due("in MINUTE 179", x.lets(0, 2, 0), 1);
        Check.due("38 would be in MINUTE 180", x.lets(1, 2, 0), 0);
        Check.due("nothing behind it", x.lets(2, 2, 0), 1);
        x.gate(25, 178);
        Check.due("38 in MINUTE 179", x.depth(2, 0, 0, 179), 38);
        Check.due("not 25", x.lets(0, 2, 0), 0);
    }

    /** "a set of WAYS (bits, not 0)" */
    private static void wordOfWays() {
        for (int ways = 1; ways <= 7; ways++) {
            BurstValley x = new BurstValley();
            x.word(3, ways, 4, 4);
            for (int way = 0; way < 3; way++) {
                Check.due("WAYS " + ways + ", WAY " + way, x.lets(0, way, 4), ways >> way & 1);
                Check.due("POSSIBLE", x.possible(way), ways >> way & 1);
            }
            Check.due("of all", x.possible(-1), Integer.bitCount(ways));
        }
    }

    /** "a START from one to another one" */
    private static void wordOfStarts() {
        int[][] cases = {{0, 0}, {0, 29}, {29, 29}, {7, 8}, {0, 28}, {1, 29}};
        for (int[] c : cases) {
            BurstValley x = new BurstValley();
            x.word(0, 1, c[0], c[1]);
            starts("from " + c[0] + " to " + c[1], x, c[0], c[1]);
            Check.due("the first", x.lets(0, 0, c[0]), 1);
            Check.due("the last", x.lets(0, 0, c[1]), 1);
            Check.due("of another WAY", x.lets(0, 1, c[0]), 0);
        }
    }

    /** "ROWS of what was seen, 16 at most, numbered as they come" */
    private static void sixteenRowsOfAllKinds() {
        for (int kind = 0; kind < 3; kind++) {
            BurstValley x = new BurstValley();
            for (int i = 0; i < 16; i++) {
                Check.due("row", addRow(x, (i + kind) % 3), i);
                x.tear(i, i % 2 == 0);
            }
            for (int k = 0; k < 3; k++) {
                Check.due("the seventeenth", addRow(x, k), FULL);
            }
            Check.due("many(2)", x.many(2), 16);
            Check.due("TORN ones fill places, too", x.many(3), 8);
            Check.due("number 15", x.tear(15, true), 1);
            Check.due("no number 16", x.tear(16, true), BAD);
        }
    }

    private static int addRow(BurstValley x, int kind) {
        return kind == 0 ? x.clock(0, 1, 0, 9) : kind == 1 ? x.mark(0, 0, 0) : x.word(0, 1, 0, 0);
    }

    /** "A ROW may be TORN.", "1 if it is new, else 0" */
    private static void tornSaysNothing() {
        for (int kind = 0; kind < 3; kind++) {
            BurstValley x = burst();
            x.word(0, 7, 3, 29);
            int number = kind == 0 ? x.clock(0, 50, 5, 9) : kind == 1 ? x.mark(0, 50, 50) : x.word(0, 1, 5, 5);
            int with = kind == 1 ? 27 : 1;
            Check.due("isn't TORN at first", x.many(3), 0);
            Check.due("not new", x.tear(number, false), 0);
            Check.due("POSSIBLE", x.possible(-1), with);
            Check.due("TORN", x.tear(number, true), 1);
            Check.due("TORN again", x.tear(number, true), 0);
            Check.due("POSSIBLE by the other one", x.possible(-1), 81);
            Check.due("hangs on it", x.hangs(number), 0);
            Check.due("lets, TORN or not", x.lets(number, 1, 5), 0);
            Check.due("lets, TORN or not", x.lets(number, 0, 5), 1);
            Check.due("many(3)", x.many(3), 1);
            Check.due("not TORN", x.tear(number, false), 1);
            Check.due("POSSIBLE", x.possible(-1), with);
            Check.due("hangs on it", x.hangs(number), 81 - with);
        }
    }

    /** "(0 none, at first; ..)" */
    private static void sidesAtFirst() {
        BurstValley x = new BurstValley();
        Check.due("all are of SIDE 0", x.doubt(0, false), 4);
        Check.due("none of SIDE 1", x.doubt(1, true), 0);
        Check.due("none of SIDE 2", x.doubt(2, true), 0);
        for (int e = 0; e < 4; e++) {
            Check.due("side", x.side(e, 2), 0);
            Check.due("of SIDE 0", x.doubt(0, false), 3 - e);
            Check.due("of SIDE 2", x.doubt(2, false), e + 1);
        }
        Check.due("side", x.side(3, 0), 2);
        Check.due("side", x.side(3, 1), 0);
        Check.due("side", x.side(3, 1), 1);
        Check.due("of SIDE 1", x.doubt(1, false), 1);
    }

    /** "All ENGINEERS who are of a SIDE (0, too) now are DOUBTED, or not" */
    private static void doubtedAreThoseOfTheSideNow() {
        BurstValley x = new BurstValley();
        for (int e = 0; e < 4; e++) {
            x.word(e, 7, e, e);
        }
        x.side(1, 1);
        x.side(2, 2);
        x.doubt(0, true);
        Check.due("0 and 3 are DOUBTED, 1 and 2 not", x.possible(-1), 0);
        x.doubt(2, true);
        starts("1 alone isn't", x, 1, 1);
        x.side(1, 2);
        starts("to a SIDE that was DOUBTED", x, 1, 1);
        x.side(0, 1);
        starts("DOUBTED, wherever to", x, 1, 1);
        x.doubt(1, false);
        Check.due("0 isn't any more", x.possible(-1), 0);
        x.doubt(2, true);
        starts("0 alone isn't", x, 0, 0);
        x.doubt(1, true);
        Check.due("all are", x.possible(-1), 90);
        x.word(0, 7, 9, 9);
        Check.due("a WORD told later, too", x.possible(-1), 90);
        x.doubt(1, false);
        Check.due("both WORDS of 0", x.possible(-1), 0);
    }

    /** "(then WORDS say nothing)" */
    private static void doubtedSayNothing() {
        BurstValley x = burst();
        x.clock(0, 50, 7, 9);
        x.mark(1, 25, 25);
        x.word(0, 2, 0, 29);
        Check.due("all three", x.possible(-1), 0);
        x.doubt(0, true);
        starts("CLOCKS and MARKS do", x, 7, 7);
        Check.due("hangs on the WORD", x.hangs(2), 0);
        Check.due("hangs on the CLOCK", x.hangs(0), 29);
        Check.due("lets, DOUBTED or not", x.lets(2, 0, 7), 0);
        Check.due("lets, DOUBTED or not", x.lets(2, 1, 7), 1);
        Check.due("TORN, too", x.tear(2, true), 1);
        x.doubt(0, false);
        starts("TORN still", x, 7, 7);
    }

    private static void possibleWithoutRows() {
        BurstValley x = new BurstValley();
        Check.due("all", x.possible(-1), 90);
        for (int way = 0; way < 3; way++) {
            Check.due("of each", x.possible(way), 30);
        }
        x.word(0, 5, 28, 29);
        Check.due("of two", x.possible(-1), 4);
        Check.due("of the first", x.possible(0), 2);
        Check.due("of none", x.possible(1), 0);
        Check.due("of the last", x.possible(2), 2);
    }

    private static void spanOfOneAndOfAll() {
        BurstValley x = new BurstValley();
        x.word(0, 6, 0, 29);
        Check.due("NONE", x.span(0, false), NONE);
        Check.due("NONE", x.span(0, true), NONE);
        for (int way = 1; way < 3; way++) {
            Check.due("first", x.span(way, false), 0);
            Check.due("last", x.span(way, true), 29);
        }
        x.word(0, 4, 29, 29);
        Check.due("NONE", x.span(1, true), NONE);
        Check.due("one alone", x.span(2, false), 29);
        Check.due("one alone", x.span(2, true), 29);
        x.word(0, 4, 0, 0);
        Check.due("NONE", x.span(2, false), NONE);
    }

    /** "HANGS is a ROW without which more would be POSSIBLE: how many more." */
    private static void hangsIsHowManyMore() {
        BurstValley x = new BurstValley();
        x.word(0, 1, 3, 9);
        Check.due("alone", x.hangs(0), 83);
        x.word(0, 1, 3, 9);
        Check.due("another like it", x.hangs(0), 0);
        Check.due("another like it", x.hangs(1), 0);
        x.word(0, 1, 9, 9);
        Check.due("one that says all", x.hangs(2), 6);
        Check.due("and the others nothing", x.hangs(0), 0);
        x.word(0, 1, 10, 10);
        Check.due("they part", x.possible(-1), 0);
        Check.due("without the last", x.hangs(3), 1);
        Check.due("without the third", x.hangs(2), 0);
        x.tear(2, true);
        Check.due("TORN", x.hangs(2), 0);
        Check.due("now two part from it", x.hangs(3), 7);
        Check.due("but it from two", x.hangs(0), 0);
    }

    /** "Whether a HOUSE falls in each POSSIBLE NIGHT (2), in some (1), in none (0; also if none is)" */
    private static void sureInEachInSomeInNone() {
        BurstValley x = burst();
        x.house(11, 99, 0);
        x.house(0, 50, 0);
        x.house(0, 51, 0);
        Edges.table(x, 2, 51);
        x.pond(51);
        x.house(1, 25, 0);
        x.word(0, 7, 0, 0);
        Check.due("in the first and the last", x.sure(1), 1);
        Check.due("in the last alone", x.sure(2), 1);
        Check.due("in none", x.sure(0), 0);
        x.word(1, 1, 0, 29);
        Check.due("in the only one", x.sure(1), 2);
        Check.due("not in it", x.sure(2), 0);
        x.tear(1, true);
        x.word(1, 5, 0, 0);
        Check.due("in both", x.sure(1), 2);
        Check.due("in one of both", x.sure(2), 1);
        Check.due("told behind it: in both", x.house(0, 1, 0), 4);
        Check.due("told behind it: in both", x.sure(4), 2);
        x.word(2, 2, 0, 29);
        Check.due("none is POSSIBLE", x.sure(1), 0);
        x.tear(2, true);
        x.tear(3, true);
        x.word(2, 3, 0, 0);
        Check.due("in the first of two", x.sure(1), 1);
    }

    /** "if that MINUTE is FLEE MINUTES or more ahead of that in which DEPTH .. is 1 or more for the first time" */
    private static void couldByFlee() {
        for (int flee : new int[] {0, 1, 29, 30}) {
            BurstValley x = burst();
            x.gate(50, 100);
            x.house(0, 99, 0);
            int just = 100 - flee;
            Check.due("just FLEE " + flee, x.could(1, 0, just, 0, 100, flee), 1);
            Check.due("1 less", x.could(1, 0, just + 1, 0, 100, flee), 0);
            Check.due("1 more", x.could(1, 0, just - 1, 0, 100, flee), 1);
        }
        BurstValley y = burst();
        y.house(0, 99, 0);
        Check.due("wet in MINUTE 0, seen in it", y.could(0, 0, 0, 0, 100, 0), 1);
        Check.due("FLEE 1", y.could(0, 0, 0, 0, 100, 1), 0);
    }

    /** "at each HOUSE of a REACH (also of the first), by numbers, STOP MINUTES go by before it is told" */
    private static void couldByStops() {
        for (int stop = 0; stop <= 9; stop++) {
            BurstValley x = burst();
            x.gate(50, 100);
            x.house(0, 99, 0);
            x.house(1, 99, 0);
            x.house(0, 99, 0);
            int rides = 100 + 10 * stop;
            Check.due("both of the first", x.could(1, 0, 100 - 2 * stop, 0, rides, 0) & 0b101, 0b101);
            Check.due("the lesser number alone", x.could(1, 0, 101 - 2 * stop, 0, rides, 0) & 0b101, stop > 0 ? 1 : 0);
            Check.due("just the lesser number", x.could(1, 0, 100 - stop, 0, rides, 0) & 0b001, 1);
            Check.due("not even that", x.could(1, 0, 101 - stop, 0, rides, 0) & 0b101, 0);
            // REACH 1 is wet in 101, and the rider comes a MINUTE behind the second STOP.
            Check.due("behind all STOPS", x.could(1, 0, 100 - 3 * stop, 0, rides, 0) >> 1 & 1, 1);
            Check.due("a MINUTE late", x.could(1, 0, 101 - 3 * stop, 0, rides, 0) >> 1 & 1, 0);
            for (int digit = 0; digit <= 9; digit++) {
                Check.due("the last digit counts nothing", x.could(1, 0, 100 - 3 * stop, 0, rides + digit, 0), 0b111);
            }
        }
    }

    /** "each REACH on takes PACE (1 to 9) MINUTES" */
    private static void couldByPace() {
        for (int pace = 1; pace <= 9; pace++) {
            BurstValley x = burst();
            x.gate(50, 100);
            x.house(3, 99, 0);
            int wet = 0;
            while (x.depth(1, 0, 3, wet) == 0) {
                wet++;
            }
            int rides = 100 * pace;
            Check.due("three REACHES", x.could(1, 0, wet - 3 * pace, 0, rides, 0), 1);
            Check.due("a MINUTE late", x.could(1, 0, wet - 3 * pace + 1, 0, rides, 0), 0);
            Check.due("one REACH", x.could(1, 0, wet - pace, 2, rides, 0), 1);
            Check.due("a MINUTE late", x.could(1, 0, wet - pace + 1, 2, rides, 0), 0);
            Check.due("none", x.could(1, 0, wet, 3, rides, 0), 1);
            Check.due("STOP 9 is no PACE", x.could(1, 0, wet - 3 * pace - 9, 0, rides + 99, 0), 1);
            Check.due("a MINUTE late", x.could(1, 0, wet - 3 * pace - 8, 0, rides + 99, 0), 0);
        }
    }

    /** "(or that never is)" */
    private static void couldWhereItNeverIsWet() {
        BurstValley x = burst();
        x.house(0, 99, 0);
        x.house(11, 99, 0);
        Check.due("dry", x.could(1, 0, 179, 0, 999, 30), 0b11);
        x.pond(5);
        Check.due("5 don't come to REACH 11", x.could(0, 0, 179, 0, 999, 30), 0b10);
        x.pond(50);
        Check.due("50 do", x.could(0, 0, 179, 0, 999, 30), 0);
        x.gate(50, 179);
        Check.due("in MINUTE 179", x.could(1, 0, 179, 0, 100, 0), 0b11);
        Check.due("behind it", x.could(1, 0, 179, 0, 110, 0), 0b10);
        Check.due("REACH 1 isn't any more", x.could(1, 0, 179, 1, 199, 30), 0b10);
    }

    private static void couldFromItsReachOn() {
        BurstValley x = new BurstValley();
        for (int i = 0; i < 10; i++) {
            x.house(i < 5 ? 11 - i : i - 5, 99, 0);
        }
        // HOUSES 0 to 4 in REACHES 11 to 7, 5 to 9 in REACHES 0 to 4.
        Check.due("all", x.could(0, 0, 0, 0, 100, 0), 0b1111111111);
        Check.due("from 4 on", x.could(0, 0, 0, 4, 100, 0), 0b1000011111);
        Check.due("from 5 on", x.could(0, 0, 0, 5, 100, 0), 0b0000011111);
        Check.due("from 8 on", x.told(0, 8, 100, 0), 0b0000001111);
        Check.due("the last alone", x.could(0, 0, 0, 11, 100, 0), 0b0000000001);
        Check.due("no HOUSE", new BurstValley().could(0, 0, 0, 0, 100, 0), 0);
    }

    private static void wetIsADepthOfOne() {
        BurstValley x = new BurstValley();
        x.pond(100);
        x.reach(0, 10, 9);
        x.gate(9, 50);
        x.house(0, 99, 0);
        // 9, 17: DEPTH is 0, then 1.
        Check.due("9 by 10 is not yet wet", x.could(0, 0, 51, 0, 100, 0), 1);
        Check.due("17 is", x.could(0, 0, 52, 0, 100, 0), 0);
    }

    /** "SURE are HOUSES that COULD in each POSSIBLE NIGHT (none, if none is)." */
    private static void toldInEachPossibleNight() {
        BurstValley x = burst();
        x.house(0, 99, 0);
        x.house(11, 99, 0);
        Edges.table(x, 2, 50);
        Check.due("all NIGHTS", x.told(0, 0, 100, 0), 0b11);
        Check.due("late for NIGHTS of START 0", x.told(1, 0, 100, 0), 0b10);
        x.word(0, 1, 0, 1);
        Check.due("late for the first NIGHT alone", x.told(1, 0, 100, 0), 0b10);
        x.tear(0, true);
        x.word(0, 2, 0, 29);
        Check.due("dry NIGHTS alone", x.told(179, 0, 999, 30), 0b11);
        x.tear(1, true);
        x.word(0, 4, 28, 29);
        Check.due("in time for both", x.told(28, 0, 100, 0), 0b11);
        Check.due("late for one", x.told(29, 0, 100, 0), 0b10);
        x.word(0, 6, 29, 29);
        Check.due("in time for the last NIGHT", x.told(29, 0, 100, 0), 0b11);
        Check.due("late for it", x.told(29, 0, 100, 1), 0b10);
        x.word(0, 1, 0, 29);
        Check.due("none is POSSIBLE", x.told(0, 0, 100, 0), 0);
    }
}
