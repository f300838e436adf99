/** Promises 2 to 9: the valley, nights. */
final class ValleyTest {
    private static final int BAD = BurstValley.BAD;
    private static final int FULL = BurstValley.FULL;
    private static final int NONE = BurstValley.NONE;
    private static final int STATE = BurstValley.STATE;

    public static void main(String[] args) {
        reach();
        pond();
        gate();
        table();
        house();
        depth();
        depthWithGate();
        falls();
        roughOfRuins();
        sooner();
        Check.finish("ValleyTest");
    }

    /** A TABLE for a WAY by SHEET 3. */
    static void tellTable(BurstValley x, int way, int... numbers) {
        x.sheet(3, 1, numbers.length);
        for (int i = 0; i < numbers.length; i++) {
            x.put(3, i, numbers[i]);
        }
        Check.due("table", x.table(way, 3), numbers.length);
    }

    private static void reach() {
        BurstValley x = new BurstValley();
        for (int r = 0; r < 12; r++) {
            Check.due("reach at first", x.reach(r, 50, 9), 102);
        }
        Check.due("reach", x.reach(0, 1, 2), 509);
        int[][] wrong = {{-1, 5, 5}, {12, 5, 5}, {0, 0, 5}, {0, 51, 5}, {0, 5, 1}, {0, 5, 10}};
        for (int[] w : wrong) {
            Check.due("reach refused", x.reach(w[0], w[1], w[2]), BAD);
        }
        Check.due("reach as it was", x.reach(0, 10, 2), 12);
        Check.due("reach of the last", x.reach(11, 7, 3), 509);
        Check.due("reach of the last", x.reach(11, 7, 3), 73);
    }

    private static void pond() {
        BurstValley x = new BurstValley();
        Check.due("pond", x.pond(9999), 0);
        Check.due("pond above", x.pond(10000), BAD);
        Check.due("pond below", x.pond(-1), BAD);
        Check.due("many(16)", x.many(16), 9999);
        Check.due("pond", x.pond(0), 9999);
        Check.due("pond", x.pond(5), 0);
    }

    private static void gate() {
        BurstValley x = new BurstValley();
        Check.due("gate", x.gate(99, 179), 0);
        int[][] wrong = {{-1, 0}, {100, 0}, {5, -1}, {5, 180}};
        for (int[] w : wrong) {
            Check.due("gate refused", x.gate(w[0], w[1]), BAD);
        }
        Check.due("gate", x.gate(0, 0), 99);
        Check.due("gate", x.gate(1, 0), 0);
    }

    private static void table() {
        BurstValley x = new BurstValley();
        Check.due("no such WAY", x.table(3, 0), BAD);
        Check.due("no such WAY", x.table(-1, 0), BAD);
        Check.due("no such SHEET", x.table(0, 4), BAD);
        Check.due("no such SHEET", x.table(0, -1), BAD);
        Check.due("missing", x.table(0, 0), -11);
        for (int sort = 0; sort < 5; sort++) {
            x.sheet(0, sort, 1);
            Check.due("of sort " + sort, x.table(0, 0), sort == 1 ? 1 : -13);
        }
        x.sheet(0, 1, 0);
        Check.due("none", x.table(0, 0), STATE);
        x.sheet(0, 1, 9);
        Check.due("nine", x.table(0, 0), STATE);
        x.sheet(0, 1, 8);
        Check.due("eight", x.table(2, 0), 8);
        x.put(0, 7, 1000);
        Check.due("1000", x.table(2, 0), STATE);
        x.put(0, 7, -1);
        Check.due("-1", x.table(2, 0), STATE);
        x.put(0, 7, 999);
        Check.due("999", x.table(2, 0), 8);
        x.put(0, 7, 5);
        x.sheet(0, -1, 0);
        x.pond(9999);
        Check.due("numbers as they were then", x.depth(2, 0, 0, 7), 99);
        Check.due("ahead of it", x.depth(2, 0, 0, 6), 0);
        x.sheet(0, 1, 9);
        Check.due("refused", x.table(2, 0), STATE);
        Check.due("stays then", x.depth(2, 0, 0, 7), 99);
    }

    private static void house() {
        BurstValley x = new BurstValley();
        int[][] wrong = {{-1, 5, 5}, {12, 5, 5}, {0, 0, 5}, {0, 100, 5}, {0, 5, -1}, {0, 5, 1000}};
        for (int[] w : wrong) {
            Check.due("house refused", x.house(w[0], w[1], w[2]), BAD);
        }
        for (int i = 0; i < 10; i++) {
            Check.due("house", x.house(i % 2 == 0 ? 0 : 11, i % 2 == 0 ? 1 : 99, i % 2 == 0 ? 0 : 999), i);
        }
        Check.due("eleventh house", x.house(0, 1, 0), FULL);
        Check.due("BAD ahead of FULL", x.house(12, 1, 0), BAD);
        Check.due("many(1)", x.many(1), 10);
    }

    private static void depth() {
        BurstValley x = new BurstValley();
        int[][] wrong = {{-1, 0, 0, 0}, {3, 0, 0, 0}, {0, -1, 0, 0}, {0, 30, 0, 0}, {0, 0, -1, 0}, {0, 0, 12, 0},
            {0, 0, 0, -1}, {0, 0, 0, 180}};
        for (int[] w : wrong) {
            Check.due("depth refused", x.depth(w[0], w[1], w[2], w[3]), BAD);
        }
        x.pond(350);
        tellTable(x, 1, 100);
        // REACH 0: 100, 150, 175, then 50 is left: 138, 69; REACH 1: 50, 100, 137, 137.
        int[] first = {10, 15, 17, 13, 6};
        int[] second = {0, 5, 10, 13, 13};
        int[] third = {0, 0, 2, 6, 10};
        for (int m = 0; m < 5; m++) {
            Check.due("depth 0 in " + m, x.depth(1, 0, 0, m), first[m]);
            Check.due("depth 1 in " + m, x.depth(1, 0, 1, m), second[m]);
            Check.due("depth 2 in " + m, x.depth(1, 0, 2, m), third[m]);
            Check.due("depth 0 from 29 on", x.depth(1, 29, 0, m + 29), first[m]);
        }
        Check.due("ahead of START", x.depth(1, 29, 0, 28), 0);
        Check.due("another WAY", x.depth(0, 0, 0, 5), 0);
        x.reach(1, 50, 9);
        Check.due("wider", x.depth(1, 0, 1, 2), 2);
        Check.due("rougher: 50 keeps 45, 75 come", x.depth(1, 0, 1, 2), 120 / 50);
        Check.due("and 5 go", x.depth(1, 0, 2, 2), 0);
        x.reach(2, 1, 2);
        Check.due("5 at a WIDTH of 1", x.depth(1, 0, 2, 2), 5);
        x.reach(11, 1, 9);
        Check.due("the last has the rest", x.depth(1, 0, 11, 179) >= 0 ? 1 : 0, 1);
        tellTable(x, 1, 10, 0, 30);
        x.pond(9999);
        x.reach(0, 1, 9);
        Check.due("first number", x.depth(1, 0, 0, 0), 10);
        Check.due("second number", x.depth(1, 0, 0, 1), 9);
        Check.due("third number", x.depth(1, 0, 0, 2), 38);
        Check.due("the last one from there on", x.depth(1, 0, 0, 3), 64);
    }

    private static void depthWithGate() {
        BurstValley x = new BurstValley();
        x.reach(0, 1, 9);
        x.pond(100);
        x.gate(60, 2);
        Check.due("ahead of the GATE's MINUTE", x.depth(0, 0, 0, 1), 0);
        Check.due("in it", x.depth(0, 0, 0, 2), 60);
        Check.due("as far as THE POND has it", x.depth(0, 0, 0, 3), 60 - 6 + 40);
        Check.due("nothing more", x.depth(0, 0, 0, 4), 94 - 10);
        tellTable(x, 0, 30);
        Check.due("both", x.depth(0, 2, 0, 2), 90);
        Check.due("both, what is left", x.depth(0, 2, 0, 3), 90 - 10 + 10);
        Check.due("THE POND is told anew each NIGHT", x.depth(0, 2, 0, 2), 90);
        Check.due("many(16)", x.many(16), 100);
    }

    private static void falls() {
        BurstValley x = new BurstValley();
        x.pond(350);
        tellTable(x, 1, 100);
        x.house(0, 16, 0);
        x.house(0, 18, 0);
        x.house(1, 5, 0);
        int[][] wrong = {{-1, 0, 0}, {3, 0, 0}, {0, -1, 0}, {0, 30, 0}, {0, 0, -1}, {0, 0, 3}};
        for (int[] w : wrong) {
            Check.due("falls refused", x.falls(w[0], w[1], w[2]), BAD);
        }
        Check.due("16 is not yet 15", x.falls(1, 0, 0), 2);
        Check.due("18 never is", x.falls(1, 0, 1), NONE);
        Check.due("5 just is", x.falls(1, 0, 2), 1);
        Check.due("later", x.falls(1, 20, 2), 21);
        Check.due("another WAY", x.falls(2, 0, 2), NONE);
        BurstValley y = new BurstValley();
        y.house(0, 1, 0);
        y.house(0, 2, 0);
        y.pond(15);
        y.gate(10, 7);
        Check.due("just 1", y.falls(0, 0, 0), 7);
        y.pond(30);
        Check.due("10, 17, 22", y.falls(0, 0, 1), 9);
        x.pond(100);
        x.gate(99, 179);
        x.house(0, 9, 0);
        Check.due("in the last MINUTE", x.falls(2, 0, 3), 179);
        x.reach(0, 11, 2);
        x.house(0, 10, 0);
        Check.due("99 by 11", x.falls(2, 0, 3), 179);
        Check.due("is 9", x.falls(2, 0, 4), NONE);
    }

    /** ROUGH grows by 1 for each HOUSE that fell, from the next MINUTE on, up to 9. */
    private static void roughOfRuins() {
        BurstValley x = new BurstValley();
        x.pond(100);
        tellTable(x, 0, 100);
        x.reach(1, 1, 2);
        x.house(0, 10, 0);
        Check.due("by 3", x.depth(0, 0, 1, 1), 33);
        x.house(0, 10, 0);
        x.house(0, 11, 0);
        Check.due("by 4: one stands", x.depth(0, 0, 1, 1), 25);
        x.reach(0, 10, 8);
        Check.due("by 9 at most", x.depth(0, 0, 1, 1), 11);
        x.reach(0, 10, 9);
        Check.due("9 stays", x.depth(0, 0, 1, 1), 11);
        x.reach(0, 10, 2);
        x.house(1, 25, 0);
        // 25 comes, falls; then REACH 1 has ROUGH 3: 25 by 3 is 8, and 75 by 4 is 18 that come.
        Check.due("not in the MINUTE itself", x.depth(0, 0, 1, 2), 25 - 8 + 18);
    }

    private static void sooner() {
        BurstValley x = new BurstValley();
        x.pond(500);
        tellTable(x, 0, 500);
        x.house(0, 50, 0);
        x.house(0, 45, 0);
        Check.due("both fall", x.falls(0, 10, 0), 10);
        Check.due("99 from 9 on: 401 are left, with 50 that stay", x.sooner(0, 10, 99, 9), 1);
        Check.due("99 from 5 on", x.sooner(0, 10, 99, 5), 2);
        Check.due("99 behind it", x.sooner(0, 10, 99, 11), 0);
        x.gate(99, 5);
        Check.due("without it two more", x.sooner(0, 10, 0, 0), 998);
        Check.due("one more", x.sooner(0, 10, 99, 9), 999);
        Check.due("as it is", x.sooner(0, 10, 99, 5), 0);
        Check.due("the GATE stays", x.gate(1, 1), 99);
        int[][] wrong = {{0, 0, -1, 0}, {0, 0, 100, 0}, {0, 0, 0, -1}, {0, 0, 0, 180}, {-1, 0, 0, 0}, {3, 0, 0, 0},
            {0, -1, 0, 0}, {0, 30, 0, 0}};
        for (int[] w : wrong) {
            Check.due("sooner refused", x.sooner(w[0], w[1], w[2], w[3]), BAD);
        }
    }
}
