/** Promises 50 to 57: the host. */
final class HostTest {
    private static final int BAD = BurstValley.BAD;
    private static final int NONE = BurstValley.NONE;

    public static void main(String[] args) {
        sheet();
        put();
        item();
        shelf();
        takenForKinds();
        takenForRows();
        dealsWithRows();
        dealsWithClaims();
        dealsThatWrap();
        dealsWithNothing();
        partedByZero();
        trace();
        many();
        Check.finish("HostTest");
    }

    private static void sheet() {
        BurstValley x = new BurstValley();
        int[][] wrong = {{-1, 0, 1}, {4, 0, 1}, {0, -2, 1}, {0, 5, 1}, {0, 0, 41}, {4, 0, -1}, {0, 5, -1}};
        for (int[] w : wrong) {
            Check.due("sheet refused", x.sheet(w[0], w[1], w[2]), BAD);
        }
        Check.due("below 0", x.sheet(0, 0, -1), -14);
        Check.due("far below 0", x.sheet(0, 4, Integer.MIN_VALUE), -14);
        Check.due("missing", x.sheet(0, -1, -1), 1);
        Check.due("missing", x.sheet(0, -1, 99), 1);
        for (int sort = 0; sort < 5; sort++) {
            Check.due("sheet", x.sheet(3, sort, 40), 1);
            Check.due("all 0", x.item(3, sort, 39), 0);
            Check.due("put", x.put(3, 39, 1) + x.put(3, 0, 1), 2);
            Check.due("refused", x.sheet(3, sort, -1), -14);
            Check.due("stays", x.item(3, sort, 39), 1);
            Check.due("anew", x.sheet(3, sort, 40), 1);
            Check.due("all 0", x.item(3, sort, 0), 0);
            Check.due("all 0", x.item(3, sort, 39), 0);
        }
        Check.due("of no items", x.sheet(3, 0, 0), 1);
        Check.due("outside", x.item(3, 0, 0), -12);
    }

    private static void put() {
        BurstValley x = new BurstValley();
        Check.due("no such SHEET", x.put(-1, 0, 0), BAD);
        Check.due("no such SHEET", x.put(4, 0, 0), BAD);
        Check.due("missing", x.put(0, 99, 0), -11);
        x.sheet(0, 2, 3);
        Check.due("below", x.put(0, -1, 0), -12);
        Check.due("above", x.put(0, 3, 0), -12);
        int[] values = {0, 1, 2, -1, 127, 128, 256, 32768, 65536, 70000, Integer.MIN_VALUE, Integer.MAX_VALUE};
        for (int v : values) {
            int[] due = {(byte) v, (short) v, v, v, v == 0 ? 0 : 1};
            for (int sort = 0; sort < 5; sort++) {
                x.sheet(0, sort, 2);
                Check.due("put", x.put(0, 1, v), 1);
                Check.due("item of sort " + sort, x.item(0, sort, 1), due[sort]);
                Check.due("its neighbour", x.item(0, sort, 0), 0);
            }
        }
    }

    private static void item() {
        BurstValley x = new BurstValley();
        x.sheet(0, 2, 3);
        int[][] wrong = {{-1, 2, 0, BAD}, {4, 2, 0, BAD}, {0, -1, 0, BAD}, {0, 5, 0, BAD}, {0, 1, 0, -13},
            {0, 3, 9, -13}, {1, 2, 9, -11}, {0, 2, -1, -12}, {0, 2, 3, -12}};
        for (int[] w : wrong) {
            Check.due("item refused", x.item(w[0], w[1], w[2]), w[3]);
        }
        x.put(0, 2, -12);
        Check.due("as low as these", x.item(0, 2, 2), -12);
        x.sheet(0, -1, 0);
        Check.due("missing", x.item(0, 2, 2), -11);
    }

    /** ROWS 0 clock, 1 mark, 2 word; CLAIM 0 in REACH 7, worth 90. */
    private static BurstValley town() {
        BurstValley x = new BurstValley();
        x.clock(4, 5, 40, 9);
        x.mark(5, 60, 70);
        x.word(3, 6, 0, 29);
        x.house(7, 5, 5);
        x.person(1, 0, 0);
        x.thing(0, 101, 90);
        x.claim(0, 0);
        return x;
    }

    private static void shelf() {
        BurstValley x = town();
        int[][] wrong = {{-1, 3, 0}, {4, 3, 0}, {0, -1, 0}, {0, 4, 0}, {0, 0, -1}, {0, 0, 3}, {0, 1, -1}, {0, 1, 1},
            {0, 2, -1}, {0, 2, 4}};
        for (int[] w : wrong) {
            Check.due("shelf refused", x.shelf(w[0], w[1], w[2]), BAD);
        }
        Check.due("nothing yet", x.taken(0, 0), -11);
        Check.due("a ROW", x.shelf(0, 0, 2), 1);
        Check.due("refused", x.shelf(0, 0, 3), BAD);
        Check.due("stays", x.taken(0, 0), 2);
        Check.due("nothing", x.shelf(0, 3, 77), 1);
        Check.due("nothing", x.taken(0, 0), -11);
        x.tear(0, true);
        Check.due("a TORN ROW", x.shelf(0, 0, 0), 1);
        Check.due("a TORN ROW", x.taken(0, 1), 0);
        Check.due("a missing row", x.shelf(0, 2, 3), 1);
        Check.due("is nothing", x.taken(0, 10), -11);
    }

    private static void takenForKinds() {
        BurstValley x = town();
        x.shelf(0, 0, 0);
        x.shelf(1, 0, 1);
        x.shelf(2, 0, 2);
        x.shelf(3, 1, 0);
        kinds(x, 0, 0, 0b0000011);
        kinds(x, 1, 1, 0b0000101);
        kinds(x, 2, 2, 0b0001001);
        kinds(x, 3, 0, 0b0100001);
        x.side(3, 2);
        x.doubt(2, true);
        kinds(x, 2, 2, 0b0011001);
        x.doubt(2, false);
        kinds(x, 2, 2, 0b0001001);
        x.fund(5);
        x.offer(0, 5);
        kinds(x, 3, 0, 0b1100001);
        int[][] wrong = {{-1, 0}, {4, 0}, {0, -1}, {0, 7}, {0, 9}, {0, 15}};
        for (int[] w : wrong) {
            Check.due("taken refused", x.taken(w[0], w[1]), BAD);
        }
    }

    /** Those KINDS (bits) for which a SHELF's thing is taken answer its number; no row is it. */
    private static void kinds(BurstValley x, int shelf, int number, int bits) {
        for (int as = 0; as < 7; as++) {
            Check.due("taken(" + shelf + ", " + as + ")", x.taken(shelf, as), (bits >> as & 1) == 1 ? number : -13);
        }
        for (int as = 10; as < 15; as++) {
            Check.due("taken(" + shelf + ", " + as + ")", x.taken(shelf, as), -13);
        }
    }

    private static void takenForRows() {
        BurstValley x = new BurstValley();
        for (int sort = 0; sort < 5; sort++) {
            x.sheet(2, sort, 7 + sort);
            x.shelf(1, 2, 2);
            for (int as = 10; as < 15; as++) {
                Check.due("taken for " + as, x.taken(1, as), as == 10 + sort ? 7 + sort : -13);
            }
            for (int as = 0; as < 7; as++) {
                Check.due("no thing", x.taken(1, as), -13);
            }
        }
        x.sheet(2, 0, 1);
        Check.due("the row that the SHEET had", x.taken(1, 14), 11);
        x.sheet(2, -1, 0);
        Check.due("that row still", x.taken(1, 14), 11);
        Check.due("of no items", x.sheet(2, 3, 0) + x.shelf(1, 2, 2), 2);
        Check.due("of no items", x.taken(1, 13), 0);
    }

    private static void dealsWithRows() {
        BurstValley x = town();
        x.shelf(0, 0, 0);
        x.shelf(1, 0, 1);
        x.shelf(2, 0, 2);
        // clock: n 0, r 4, a 40. mark: n 1, r 5, a 60. word: n 2, r 3, a 6.
        deal(x, 0, 0, 7, 47 ^ 0, 20, 10);
        deal(x, 0, 1, 7, 94, 11, 20, 10);
        deal(x, 0, 2, 7, 90, 12, 11, 20, 10);
        deal(x, 0, 3, -7, -1, 13);
        deal(x, 1, 0, 7, 67, 10);
        deal(x, 1, 1, 7, 134, 11, 10);
        deal(x, 1, 2, 7, 129 + 61, 30, 12, 11, 10, 10);
        deal(x, 1, 3, 7, 1, 13);
        deal(x, 2, 0, 7, 13, 10);
        deal(x, 2, 1, 7, -26, 40, 11, 10);
        deal(x, 2, 2, 7, -29, 12, 40, 11, 10);
        deal(x, 2, 3, 7, 10, 41, 13);
        x.doubt(0, true);
        deal(x, 2, 0, 7, 12, 50, 10);
        deal(x, 2, 1, 7, -72, 51, 40, 11, 50, 10);
        deal(x, 2, 2, 7, -75, 12, 51, 40, 11, 50, 10);
        deal(x, 2, 3, 7, 10, 41, 13);
        x.clock(2, 5, 9, 9);
        x.shelf(0, 0, 3);
        deal(x, 0, 0, 1, 10 ^ 3, 20, 10);
        deal(x, 0, 3, 7, -7, 13);
    }

    private static void dealsWithClaims() {
        BurstValley x = town();
        x.house(2, 5, 5);
        x.thing(1, 101, 30);
        x.claim(0, 1);
        x.shelf(0, 1, 1);
        // n 1, r 2, a 30.
        deal(x, 0, 0, 5, 35, 10);
        deal(x, 0, 1, 5, 70, 11, 10);
        deal(x, 0, 2, 5, 136, 60, 12, 11, 10);
        deal(x, 0, 3, 5, -5, 61, 13);
        x.fund(9);
        x.offer(1, 9);
        deal(x, 0, 0, 5, 40, 71, 10);
        deal(x, 0, 1, 5, 80, 11, 71, 10);
        deal(x, 0, 2, 5, 156 + 72, 70, 60, 12, 11, 71, 10, 11, 71, 10);
        deal(x, 0, 3, 5, -5, 61, 13);
        x.shelf(0, 1, 0);
        deal(x, 0, 3, 50, -7, 61, 13);
    }

    private static void dealsThatWrap() {
        BurstValley x = town();
        x.shelf(0, 0, 1);
        int most = Integer.MAX_VALUE;
        deal(x, 0, 0, most, most + 60, 10);
        deal(x, 0, 1, most, (most + 60) * 2, 11, 10);
        deal(x, 0, 3, Integer.MIN_VALUE, Integer.MIN_VALUE / 4, 13);
        x.clock(2, 5, 9, 9);
        x.shelf(0, 0, 3);
        deal(x, 0, 3, Integer.MIN_VALUE, Integer.MIN_VALUE, 13);
    }

    private static void dealsWithNothing() {
        BurstValley x = town();
        x.shelf(0, 0, 0);
        x.sheet(0, 0, 1);
        x.shelf(1, 2, 0);
        int[][] wrong = {{-1, 0}, {4, 0}, {0, -1}, {0, 4}, {1, 0}, {2, 0}};
        for (int[] w : wrong) {
            deal(x, 0, 0, 7, 47, 20, 10);
            deal(x, w[0], w[1], 7, 0);
        }
        BurstValley y = new BurstValley();
        y.keep();
        y.word(0, 1, 0, 0);
        y.shelf(0, 0, 0);
        deal(y, 0, 0, 7, 8, 10);
        y.again();
        deal(y, 0, 0, 7, 0);
        Check.due("nothing any more", y.taken(0, 0), -11);
        BurstValley z = town();
        z.keep();
        z.person(1, 0, 0);
        z.claim(1, 0);
        z.shelf(0, 1, 1);
        deal(z, 0, 0, 7, 97, 10);
        z.again();
        deal(z, 0, 0, 7, 0);
        Check.due("nothing any more", z.taken(0, 5), -11);
        y.mark(3, 4, 5);
        Check.due("one of that number again", y.taken(0, 2), 0);
    }

    private static void partedByZero() {
        BurstValley x = new BurstValley();
        x.word(0, 1, 0, 0);
        x.word(0, 1, 0, 0);
        x.clock(2, 5, 9, 9);
        x.house(0, 5, 5);
        x.person(1, 0, 0);
        x.thing(0, 101, 30);
        x.claim(0, 0);
        x.shelf(0, 0, 0);
        x.shelf(1, 0, 2);
        x.shelf(2, 1, 0);
        deal(x, 0, 3, 7, -15, 41, 13);
        deal(x, 1, 3, 7, -15, 13);
        deal(x, 2, 3, 7, -15, 61, 13);
        deal(x, 2, 0, 7, 37, 10);
    }

    /** A DEAL, and THE TRACE behind it. */
    private static void deal(BurstValley x, int shelf, int deal, int v, int due, int... bodies) {
        Check.due("deal(" + shelf + ", " + deal + ", " + v + ")", x.deal(shelf, deal, v), due);
        Check.due("many(15)", x.many(15), bodies.length);
        for (int i = 0; i < bodies.length; i++) {
            Check.due("trace(" + i + ")", x.trace(i), bodies[i]);
        }
        Check.due("behind the last one", x.trace(bodies.length), NONE);
    }

    private static void trace() {
        BurstValley x = new BurstValley();
        Check.due("none yet", x.trace(0), NONE);
        Check.due("below", x.trace(-1), NONE);
        Check.due("above", x.trace(30), NONE);
        Check.due("far above", x.trace(Integer.MAX_VALUE), NONE);
    }

    private static void many() {
        BurstValley x = town();
        x.pond(5);
        x.days(3);
        x.tear(1, true);
        x.name(0, -1);
        x.name(0, -1);
        x.find(0, 0);
        x.read();
        x.proof(0, -1);
        x.proof(0, -1);
        x.fund(50);
        x.offer(0, 8);
        x.round(1, 0);
        x.feed(0, 7);
        x.shelf(0, 0, 0);
        x.deal(0, 1, 0);
        int[] due = {3, 1, 3, 1, 1, 2, 1, 1, 1, 1, 1, 2, 42, 1, 7, 3, 5};
        for (int what = 0; what < due.length; what++) {
            Check.due("many(" + what + ")", x.many(what), due[what]);
        }
        Check.due("below", x.many(-1), BAD);
        Check.due("above", x.many(17), BAD);
    }
}
