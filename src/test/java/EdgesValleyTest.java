/** Boundary cases of promises 1 to 9, sentence by sentence. */
final class EdgesValleyTest {
    private static final int BAD = BurstValley.BAD;
    private static final int FULL = BurstValley.FULL;
    private static final int NONE = BurstValley.NONE;
    private static final int STATE = BurstValley.STATE;

    public static void main(String[] args) {
        rangesOfWhatIsTold();
        rangesOfNights();
        whatIsThereAtFirst();
        reachAnswersWhatItHad();
        pondAndGateAnswerWhatTheyHad();
        tableOfOneToEightNumbers();
        tableIsThatOfTheSheetThen();
        gateFromItsMinuteOn();
        tableFromStartOn();
        lastNumberFromThereOn();
        onlyWhatThePondHas();
        allAtOnce();
        partByRoughIsCut();
        outOfTheValleyFromTheLast();
        depthIsCut();
        houseFallsWhenDepthIsItsStrength();
        houseFallsInTheFirstMinute();
        nothingFallsBehindTheNight();
        roughFromTheNextMinuteOn();
        roughOfItsOwnReachAlone();
        roughOfEachHouse();
        roughIsNineAtMost();
        eachNightBeginsAnew();
        tenHousesAtMost();
        soonerCountsBothWays();
        soonerTellsNothing();
        Check.finish("EdgesValleyTest");
    }

    private static void rangesOfWhatIsTold() {
        Edges.range("reach", 0, 11, v -> new BurstValley().reach(v, 5, 5));
        Edges.range("WIDTH", 1, 50, v -> new BurstValley().reach(3, v, 5));
        Edges.range("ROUGH", 2, 9, v -> new BurstValley().reach(3, 5, v));
        Edges.range("THE POND", 0, 9999, v -> new BurstValley().pond(v));
        Edges.range("what the GATE lets", 0, 99, v -> new BurstValley().gate(v, 5));
        Edges.range("MINUTE of the GATE", 0, 179, v -> new BurstValley().gate(5, v));
        Edges.range("REACH of a HOUSE", 0, 11, v -> new BurstValley().house(v, 5, 5));
        Edges.range("STRENGTH", 1, 99, v -> new BurstValley().house(5, v, 5));
        Edges.range("ROOM", 0, 999, v -> new BurstValley().house(5, 5, v));
        Edges.range("WAY of a TABLE", 0, 2, v -> withShorts(1).table(v, 0));
        Edges.range("SHEET of a TABLE", 0, 3, v -> withShorts(1).table(0, v));
    }

    private static void rangesOfNights() {
        Edges.range("WAY", 0, 2, v -> new BurstValley().depth(v, 5, 5, 5));
        Edges.range("START", 0, 29, v -> new BurstValley().depth(1, v, 5, 5));
        Edges.range("REACH", 0, 11, v -> new BurstValley().depth(1, 5, v, 5));
        Edges.range("MINUTE", 0, 179, v -> new BurstValley().depth(1, 5, 5, v));
        Edges.range("WAY", 0, 2, v -> withHouses(2).falls(v, 5, 1));
        Edges.range("START", 0, 29, v -> withHouses(2).falls(1, v, 1));
        Edges.range("HOUSE", 0, 1, v -> withHouses(2).falls(1, 5, v));
        Edges.range("HOUSE", 0, 9, v -> withHouses(10).falls(1, 5, v));
        Edges.range("WAY", 0, 2, v -> new BurstValley().sooner(v, 5, 5, 5));
        Edges.range("START", 0, 29, v -> new BurstValley().sooner(1, v, 5, 5));
        Edges.range("what the GATE would let", 0, 99, v -> new BurstValley().sooner(1, 5, v, 5));
        Edges.range("from which MINUTE", 0, 179, v -> new BurstValley().sooner(1, 5, 5, v));
    }

    /** All SHEETS are rows of n shorts. */
    private static BurstValley withShorts(int n) {
        BurstValley x = new BurstValley();
        for (int sheet = 0; sheet < 4; sheet++) {
            x.sheet(sheet, 1, n);
        }
        return x;
    }

    private static BurstValley withHouses(int n) {
        BurstValley x = new BurstValley();
        for (int i = 0; i < n; i++) {
            x.house(i, 9, 9);
        }
        return x;
    }

    /** REACHES as narrow as can be, so that DEPTH is the water. */
    private static BurstValley narrow(int pond, int rough) {
        BurstValley x = new BurstValley();
        for (int r = 0; r < 12; r++) {
            x.reach(r, 1, rough);
        }
        x.pond(pond);
        return x;
    }

    private static void depths(String what, BurstValley x, int way, int start, int reach, int from, int... due) {
        for (int i = 0; i < due.length; i++) {
            Check.due(what + ", REACH " + reach + " in " + (from + i), x.depth(way, start, reach, from + i), due[i]);
        }
    }

    /** "10 at first", "2 at first", "0 at first", "at first one number 0", "at first 0 from 0 on" */
    private static void whatIsThereAtFirst() {
        BurstValley x = new BurstValley();
        for (int r = 0; r < 12; r++) {
            Check.due("WIDTH and ROUGH of " + r, x.reach(r, 10, 2), 102);
        }
        Check.due("THE POND", x.pond(9999), 0);
        for (int way = 0; way < 3; way++) {
            Check.due("nothing comes", x.depth(way, 0, 0, 0) + x.depth(way, 0, 0, 179) + x.depth(way, 29, 0, 179), 0);
        }
        Check.due("the GATE", x.gate(99, 0), 0);
        Check.due("from 0 on", x.depth(0, 0, 0, 0), 9);
        Check.due("what it let then", x.gate(0, 5), 99);
        BurstValley y = narrow(9999, 9);
        Check.due("the TABLE has one number", y.table(0, 0), -11);
        y.sheet(0, 1, 2);
        y.put(0, 0, 7);
        Check.due("two numbers", y.table(0, 0), 2);
        depths("of another WAY yet", y, 1, 0, 0, 0, 0, 0, 0);
    }

    /** "10 times the WIDTH that it had, and its ROUGH" */
    private static void reachAnswersWhatItHad() {
        BurstValley x = new BurstValley();
        x.reach(0, 1, 2);
        x.reach(11, 50, 9);
        Check.due("the least", x.reach(0, 50, 9), 12);
        Check.due("the most", x.reach(11, 1, 2), 509);
        Check.due("as told now", x.reach(0, 10, 2), 509);
        Check.due("as told now", x.reach(11, 10, 2), 12);
        Check.due("another one stays", x.reach(1, 10, 2), 102);
    }

    private static void pondAndGateAnswerWhatTheyHad() {
        BurstValley x = new BurstValley();
        int[] ponds = {9999, 0, 1, 9998};
        int had = 0;
        for (int v : ponds) {
            Check.due("pond", x.pond(v), had);
            had = v;
        }
        int[] gates = {99, 0, 1, 98};
        had = 0;
        for (int v : gates) {
            Check.due("gate", x.gate(v, 179), had);
            had = v;
        }
    }

    /** "STATE: it has none, more than 8, or one isn't as told" */
    private static void tableOfOneToEightNumbers() {
        Check.due("none", withShorts(0).table(0, 0), STATE);
        Check.due("one", withShorts(1).table(0, 0), 1);
        Check.due("eight", withShorts(8).table(0, 0), 8);
        Check.due("nine", withShorts(9).table(0, 0), STATE);
        Check.due("forty", withShorts(40).table(0, 0), STATE);
        for (int at = 0; at < 8; at++) {
            for (int v : new int[] {-1, 1000, -32768, 32767}) {
                BurstValley x = withShorts(8);
                x.put(1, at, v);
                Check.due(v + " at " + at, x.table(2, 1), STATE);
            }
            for (int v : new int[] {0, 999}) {
                BurstValley x = withShorts(8);
                x.put(1, at, v);
                Check.due(v + " at " + at, x.table(2, 1), 8);
            }
        }
    }

    /** "its numbers as they are now" */
    private static void tableIsThatOfTheSheetThen() {
        BurstValley x = narrow(9999, 9);
        x.sheet(0, 1, 1);
        x.put(0, 0, 30);
        x.table(0, 0);
        x.put(0, 0, 900);
        Check.due("put behind it", x.depth(0, 0, 0, 0), 30);
        x.sheet(0, 2, 1);
        Check.due("another sort behind it", x.depth(0, 0, 0, 0), 30);
        x.sheet(0, -1, 0);
        Check.due("missing behind it", x.depth(0, 0, 0, 0), 30);
        x.sheet(0, 1, 2);
        x.put(0, 0, 1000);
        Check.due("refused behind it", x.table(0, 0), STATE);
        depths("as it was", x, 0, 0, 0, 0, 30, 57);
        Edges.table(x, 0, 7, 8, 9, 1, 2, 3, 4, 5);
        Edges.table(x, 0, 6);
        depths("shorter now", x, 0, 0, 0, 0, 6, 12, 17);
    }

    /** "if m is not ahead of its MINUTE" */
    private static void gateFromItsMinuteOn() {
        BurstValley x = narrow(9999, 9);
        x.gate(9, 50);
        depths("GATE from 50", x, 0, 0, 0, 49, 0, 9, 17);
        x.gate(9, 0);
        depths("GATE from 0", x, 0, 0, 0, 0, 9, 17);
        x.gate(9, 179);
        depths("GATE from 179", x, 0, 0, 0, 177, 0, 0, 9);
    }

    /** "if m is not ahead of START, number m less START of the TABLE" */
    private static void tableFromStartOn() {
        BurstValley x = narrow(9999, 9);
        Edges.table(x, 2, 10, 0, 100, 0);
        for (int start : new int[] {0, 1, 17, 29}) {
            if (start > 0) {
                depths("ahead of START " + start, x, 2, start, 0, start - 1, 0);
            }
            depths("START " + start, x, 2, start, 0, start, 10, 9, 108, 96);
        }
        Edges.table(x, 1, 0, 0, 0, 0, 0, 0, 0, 20);
        depths("the eighth number", x, 1, 13, 0, 19, 0, 20, 38);
    }

    /** "(its last one from there on)" */
    private static void lastNumberFromThereOn() {
        BurstValley x = narrow(9999, 9);
        Edges.table(x, 0, 0, 0, 9);
        depths("two of 0, then 9 for good", x, 0, 4, 0, 4, 0, 0, 9, 17, 25, 32);
        Edges.table(x, 0, 500, 0);
        Check.due("0 for good", x.depth(0, 0, 0, 1), 500 - 55);
        Check.due("0 for good", x.depth(0, 0, 0, 2), 445 - 49);
        Edges.table(x, 0, 9);
        depths("one number alone", x, 0, 29, 0, 28, 0, 9, 17);
        Edges.table(x, 0, 0, 1);
        Check.due("1 in each MINUTE to the last one", x.depth(0, 0, 0, 179), 9);
    }

    /** "each as far as THE POND has it" */
    private static void onlyWhatThePondHas() {
        BurstValley x = narrow(0, 9);
        Edges.table(x, 0, 50);
        x.gate(40, 0);
        depths("none", x, 0, 0, 0, 0, 0, 0);
        x.pond(1);
        depths("1", x, 0, 0, 0, 0, 1, 1);
        x.pond(40);
        depths("as much as the GATE lets", x, 0, 0, 0, 0, 40, 36);
        x.pond(60);
        depths("20 for the TABLE", x, 0, 0, 0, 0, 60, 54);
        x.pond(90);
        depths("just both", x, 0, 0, 0, 0, 90, 80);
        x.pond(91);
        depths("1 left", x, 0, 0, 0, 0, 90, 81);
        Check.due("in each NIGHT from the whole POND", x.many(16), 91);
        x.gate(0, 0);
        x.pond(49);
        depths("the TABLE alone, less", x, 0, 3, 0, 3, 49, 44);
        x.pond(51);
        depths("the TABLE alone, 1 more", x, 0, 3, 0, 3, 50, 46);
    }

    /** "all at once, by what they had ahead of (1)", "(All is 0 ahead of MINUTE 0.)" */
    private static void allAtOnce() {
        BurstValley x = narrow(64, 2);
        Edges.table(x, 0, 64);
        int[][] due = {
            {64, 0, 0, 0, 0}, {32, 32, 0, 0, 0}, {16, 32, 16, 0, 0}, {8, 24, 24, 8, 0}, {4, 16, 24, 16, 4},
        };
        for (int m = 0; m < due.length; m++) {
            for (int r = 0; r < 5; r++) {
                Check.due("REACH " + r + " in " + m, x.depth(0, 0, r, m), due[m][r]);
                Check.due("REACH " + r + " in " + m, x.depth(0, 21, r, m + 21), due[m][r]);
            }
        }
    }

    /** "its part by ROUGH (its water by ROUGH, cut)" */
    private static void partByRoughIsCut() {
        for (int rough = 2; rough <= 9; rough++) {
            BurstValley x = narrow(rough - 1, rough);
            Edges.table(x, 0, rough - 1);
            Check.due("1 less than ROUGH stays", x.depth(0, 0, 0, 179), rough - 1);
            Check.due("and nothing goes", x.depth(0, 0, 1, 179), 0);
            x.pond(rough);
            Edges.table(x, 0, rough);
            Check.due("ROUGH itself", x.depth(0, 0, 0, 1), rough - 1);
            Check.due("1 goes", x.depth(0, 0, 1, 1), 1);
            x.pond(2 * rough - 1);
            Edges.table(x, 0, 2 * rough - 1);
            Check.due("1 less than twice", x.depth(0, 0, 1, 1), 1);
        }
    }

    /** "(out of the valley from the last one)" */
    private static void outOfTheValleyFromTheLast() {
        BurstValley x = narrow(900, 2);
        Edges.table(x, 0, 900);
        int last = 0;
        int sum = 900;
        boolean left = false;
        for (int m = 0; m < 30; m++) {
            int now = 0;
            for (int r = 0; r < 12; r++) {
                now += x.depth(0, 0, r, m);
            }
            sum -= last / 2;
            Check.due("all water in " + m, now, sum);
            last = x.depth(0, 0, 11, m);
            left |= last > 1;
        }
        Check.isTrue("some came to the last one", left);
    }

    /** "DEPTH of a REACH is its water by its WIDTH, cut." */
    private static void depthIsCut() {
        BurstValley x = new BurstValley();
        Edges.table(x, 0, 999);
        int[][] cases = {{9, 10, 0}, {10, 10, 1}, {19, 10, 1}, {20, 10, 2}, {49, 50, 0}, {50, 50, 1}, {99, 50, 1}, {999, 1, 999}};
        for (int[] c : cases) {
            x.pond(c[0]);
            x.reach(0, c[1], 2);
            Check.due(c[0] + " by " + c[1], x.depth(0, 0, 0, 0), c[2]);
        }
    }

    /** "A HOUSE falls in the first MINUTE in which DEPTH of its REACH is its STRENGTH or more." */
    private static void houseFallsWhenDepthIsItsStrength() {
        BurstValley x = narrow(50, 2);
        Edges.table(x, 0, 50);
        x.house(0, 49, 0);
        x.house(0, 50, 0);
        x.house(0, 51, 0);
        x.house(1, 25, 0);
        x.house(1, 26, 0);
        Check.due("1 more than it is strong", x.falls(0, 7, 0), 7);
        Check.due("just as strong", x.falls(0, 7, 1), 7);
        Check.due("1 less", x.falls(0, 7, 2), NONE);
        BurstValley y = narrow(50, 2);
        Edges.table(y, 0, 50);
        y.house(1, 25, 0);
        y.house(1, 29, 0);
        y.house(1, 30, 0);
        // 25; then 8 go by 3 and 12 come.
        Check.due("in the next REACH", y.falls(0, 7, 0), 8);
        Check.due("a MINUTE later", y.falls(0, 7, 1), 9);
        Check.due("1 less", y.falls(0, 7, 2), NONE);
        BurstValley z = narrow(99, 9);
        z.house(0, 1, 0);
        z.house(0, 99, 0);
        z.gate(99, 3);
        Check.due("STRENGTH 1", z.falls(0, 0, 0), 3);
        Check.due("STRENGTH 99", z.falls(0, 0, 1), 3);
    }

    private static void houseFallsInTheFirstMinute() {
        BurstValley x = narrow(9999, 2);
        Edges.table(x, 0, 40, 0, 0, 0, 0, 200, 0);
        x.house(0, 30, 0);
        x.house(0, 41, 0);
        Check.due("in the first rise", x.falls(0, 2, 0), 2);
        Check.due("in the second rise", x.falls(0, 2, 1), 7);
        Check.due("in MINUTE 0", x.falls(0, 0, 0), 0);
    }

    private static void nothingFallsBehindTheNight() {
        BurstValley x = narrow(100, 2);
        x.gate(50, 179);
        x.house(0, 50, 0);
        x.house(0, 51, 0);
        x.house(1, 1, 0);
        Check.due("in MINUTE 179", x.falls(0, 0, 0), 179);
        Check.due("it would in MINUTE 180", x.falls(0, 0, 1), NONE);
        Check.due("water would come in MINUTE 180", x.falls(0, 0, 2), NONE);
        x.gate(50, 178);
        Check.due("in MINUTE 179", x.falls(0, 0, 1), 179);
        Check.due("in MINUTE 179", x.falls(0, 0, 2), 179);
        x.gate(0, 0);
        Check.due("of those that would fall in 180 none", x.sooner(0, 0, 50, 179), 1000 - 1);
        x.gate(50, 179);
        Check.due("one falls now", x.sooner(0, 0, 0, 0), 1);
        Check.due("all three", x.sooner(0, 0, 50, 178), 1000 - 2);
    }

    /** "ROUGH of a REACH is from the next MINUTE on 1 more for each HOUSE of it that fell" */
    private static void roughFromTheNextMinuteOn() {
        BurstValley x = narrow(9999, 2);
        Edges.table(x, 0, 60, 60, 0);
        x.house(0, 90, 0);
        // 60; 30 go by 2 (it falls only then): 90; then 30 go by 3: 60, 20 go by 3: 40.
        depths("ROUGH 2, then 3", x, 0, 0, 0, 0, 60, 90, 60, 40);
        depths("what went on", x, 0, 0, 1, 0, 0, 30, 45, 43);
    }

    private static void roughOfItsOwnReachAlone() {
        BurstValley x = narrow(100, 2);
        Edges.table(x, 0, 100);
        x.house(1, 50, 0);
        depths("the REACH ahead of it", x, 0, 0, 0, 0, 100, 50, 25, 13);
        depths("its own: 50, by 3 then", x, 0, 0, 1, 0, 0, 50, 50 - 16 + 25, 59 - 19 + 12);
    }

    private static void roughOfEachHouse() {
        BurstValley x = narrow(120, 2);
        Edges.table(x, 0, 120);
        x.house(0, 10, 0);
        depths("one: by 3", x, 0, 0, 1, 1, 40);
        x.house(0, 20, 0);
        depths("two in one MINUTE: by 4", x, 0, 0, 1, 1, 30);
        x.house(0, 99, 0);
        x.house(0, 99, 0);
        depths("four: by 6", x, 0, 0, 1, 1, 20);
        BurstValley y = narrow(9999, 2);
        Edges.table(y, 0, 50, 75, 0);
        y.house(0, 50, 0);
        y.house(0, 99, 0);
        // 50; 25 go by 2? no: it fell in the MINUTE ahead, 16 go by 3: 109; then 27 go by 4: 82.
        depths("one after the other", y, 0, 0, 0, 0, 50, 109, 82);
    }

    /** "(9 at most)" */
    private static void roughIsNineAtMost() {
        for (int rough = 2; rough <= 9; rough++) {
            for (int houses = 0; houses <= 10; houses++) {
                BurstValley x = new BurstValley();
                x.pond(999);
                x.reach(0, 1, rough);
                x.reach(1, 1, 2);
                Edges.table(x, 0, 999);
                for (int i = 0; i < houses; i++) {
                    x.house(0, 1 + i, 0);
                }
                Check.due(houses + " on " + rough, x.depth(0, 0, 1, 1), 999 / Math.min(9, rough + houses));
            }
        }
    }

    private static void eachNightBeginsAnew() {
        BurstValley x = narrow(100, 2);
        Edges.table(x, 0, 100);
        x.house(0, 50, 0);
        for (int i = 0; i < 3; i++) {
            Check.due("falls", x.falls(0, 0, 0), 0);
            depths("by 3", x, 0, 0, 1, 0, 0, 33);
            depths("ROUGH as told", x, 0, 5, 0, 5, 100, 67);
            Check.due("dry", x.falls(1, 0, 0), NONE);
        }
        Check.due("ROUGH itself", x.reach(0, 1, 2), 12);
        x.house(0, 60, 0);
        depths("two HOUSES now", x, 0, 0, 1, 0, 0, 25);
    }

    /** "HOUSES, 10 at most, numbered as they come" */
    private static void tenHousesAtMost() {
        BurstValley x = new BurstValley();
        for (int i = 0; i < 10; i++) {
            Check.due("house", x.house(11 - i, 1 + i, i), i);
        }
        Check.due("the eleventh", x.house(0, 1, 0), FULL);
        Check.due("many(1)", x.many(1), 10);
        Check.due("no number 10", x.falls(0, 0, 10), BAD);
    }

    /** "How many HOUSES fall fewer ... (below 0: 1000 is added)" */
    private static void soonerCountsBothWays() {
        BurstValley x = narrow(99, 2);
        for (int i = 0; i < 10; i++) {
            x.house(0, 50 + i, 0);
        }
        Check.due("none falls, none would", x.sooner(0, 0, 49, 179), 0);
        Check.due("one would", x.sooner(0, 0, 50, 179), 999);
        Check.due("all ten would", x.sooner(0, 0, 99, 0), 990);
        x.gate(99, 0);
        Check.due("as many", x.sooner(0, 0, 59, 179), 0);
        Check.due("one fewer", x.sooner(0, 0, 58, 179), 1);
        Check.due("ten fewer", x.sooner(0, 0, 0, 179), 10);
        Check.due("ten fewer, nothing let", x.sooner(2, 29, 0, 0), 10);
    }

    private static void soonerTellsNothing() {
        BurstValley x = narrow(99, 2);
        x.house(0, 50, 0);
        x.sooner(0, 0, 99, 0);
        Check.due("the GATE as it was", x.falls(0, 0, 0), NONE);
        Check.due("the GATE as it was", x.sure(0), 0);
        Check.due("what it let", x.gate(3, 3), 0);
    }
}
