/** Boundary cases of promises 50 to 57, sentence by sentence. */
final class EdgesHostTest {
    private static final int BAD = BurstValley.BAD;
    private static final int NONE = BurstValley.NONE;
    private static final int NOTHING = -11;
    private static final int OUTSIDE = -12;
    private static final int OTHER_KIND = -13;
    private static final int BELOW_ZERO = -14;
    private static final int BY_ZERO = -15;
    private static final int MIN = Integer.MIN_VALUE;
    private static final int MAX = Integer.MAX_VALUE;

    public static void main(String[] args) {
        ranges();
        sheetsAreMissingAtFirst();
        sheetOfNoneToForty();
        sizeBelowZero();
        missingLooksAtNoSize();
        sheetIsAllZeroAnew();
        putNarrows();
        putWithin();
        itemOfItsSort();
        itemsAsLowAsRefusals();
        shelvesHoldNothingAtFirst();
        shelfOfWhatThereIs();
        shelfHoldsTheRowOfThen();
        numbersOfTheLast();
        kindAsItIsNow();
        nothingIfThereIsNoSuchOneAnyMore();
        takenForARow();
        dealsAtTheirEdges();
        dealsOfTheLastNumbers();
        restsGoAway();
        dealByZero();
        noTraceOfNoDeal();
        traceOfTheLatestDeal();
        manyOfAll();
        Check.finish("EdgesHostTest");
    }

    private static void ranges() {
        Edges.range("SHEET", 0, 3, v -> new BurstValley().sheet(v, 2, 5));
        Edges.range("sort", -1, 4, v -> new BurstValley().sheet(1, v, 5));
        Edges.range("SHEET to put", 0, 3, v -> new BurstValley().put(v, 0, 5));
        Edges.range("SHEET of an item", 0, 3, v -> new BurstValley().item(v, 2, 0));
        Edges.range("sort of an item", 0, 4, v -> new BurstValley().item(1, v, 0));
        Edges.range("SHELF", 0, 3, v -> rows().shelf(v, 0, 1));
        Edges.range("what", 0, 3, v -> rows().shelf(1, v, 0));
        Edges.range("ROW on a SHELF", 0, 2, v -> rows().shelf(1, 0, v));
        Edges.range("CLAIM on a SHELF", 0, 1, v -> rows().shelf(1, 1, v));
        Edges.range("SHEET on a SHELF", 0, 3, v -> rows().shelf(1, 2, v));
        Edges.range("SHELF taken", 0, 3, v -> rows().taken(v, 0));
        Edges.range("KIND", 0, 6, v -> rows().taken(1, v));
        Edges.range("sort of a row", 10, 14, v -> rows().taken(1, v));
        Edges.range("many", 0, 16, v -> new BurstValley().many(v));
        for (int n : new int[] {MIN, -1, 0, 99, MAX}) {
            Check.due("nothing on a SHELF, n " + n, rows().shelf(1, 3, n), 1);
        }
    }

    /** ROWS 0 clock, 1 mark, 2 word; CLAIMS 0 and 1 of THINGS in REACHES 7 and 8, worth 90 and 91. */
    private static BurstValley rows() {
        BurstValley x = new BurstValley();
        x.clock(4, 5, 40, 9);
        x.mark(5, 60, 70);
        x.word(3, 6, 0, 29);
        x.house(7, 5, 5);
        x.house(8, 5, 5);
        x.person(1, 0, 0);
        x.thing(0, 101, 90);
        x.thing(1, 101, 91);
        x.claim(0, 0);
        x.claim(0, 1);
        return x;
    }

    /** "or missing (at first)" */
    private static void sheetsAreMissingAtFirst() {
        BurstValley x = new BurstValley();
        for (int sheet = 0; sheet < 4; sheet++) {
            Check.due("put", x.put(sheet, 0, 1), NOTHING);
            for (int sort = 0; sort < 5; sort++) {
                Check.due("item", x.item(sheet, sort, 0), NOTHING);
            }
            Check.due("table", x.table(0, sheet), NOTHING);
            Check.due("shelf", x.shelf(sheet, 2, sheet), 1);
            Check.due("taken", x.taken(sheet, 10), NOTHING);
        }
    }

    /** "40 at most", "BAD: .. n above 40" */
    private static void sheetOfNoneToForty() {
        for (int sort = 0; sort < 5; sort++) {
            for (int n = 0; n <= 40; n++) {
                BurstValley x = new BurstValley();
                Check.due("sheet of " + n, x.sheet(2, sort, n), 1);
                Check.due("the last item", x.item(2, sort, n - 1), n == 0 ? OUTSIDE : 0);
                Check.due("behind it", x.item(2, sort, n), OUTSIDE);
                Check.due("put behind it", x.put(2, n, 1), OUTSIDE);
            }
            for (int n : new int[] {41, 42, 1000, MAX}) {
                Check.due("sheet of " + n, new BurstValley().sheet(2, sort, n), BAD);
            }
        }
    }

    /** "-14 a size below 0" */
    private static void sizeBelowZero() {
        for (int sort = 0; sort < 5; sort++) {
            for (int n : new int[] {-1, -2, -40, -41, MIN}) {
                BurstValley x = new BurstValley();
                x.sheet(1, 2, 3);
                x.put(1, 1, 7);
                Check.due("sheet of " + n, x.sheet(1, sort, n), BELOW_ZERO);
                Check.due("as it was", x.item(1, 2, 1), 7);
                Check.due("of another one", x.sheet(0, sort, n), BELOW_ZERO);
                Check.due("missing still", x.item(0, sort, 0), NOTHING);
            }
        }
    }

    /** "or missing (sort -1; n isn't looked at)" */
    private static void missingLooksAtNoSize() {
        for (int n : new int[] {0, 40, 41, -1, MIN, MAX}) {
            BurstValley x = new BurstValley();
            x.sheet(3, 4, 2);
            Check.due("missing, n " + n, x.sheet(3, -1, n), 1);
            Check.due("missing", x.item(3, 4, 0), NOTHING);
            Check.due("missing again", x.sheet(3, -1, n), 1);
            Check.due("no such sort", x.sheet(3, -2, n), BAD);
        }
    }

    /** "becomes a row of n of a sort, all 0" */
    private static void sheetIsAllZeroAnew() {
        BurstValley x = new BurstValley();
        x.sheet(0, 2, 40);
        x.sheet(1, 2, 40);
        for (int i = 0; i < 40; i++) {
            x.put(0, i, 5);
            x.put(1, i, 6);
        }
        x.sheet(0, 2, 2);
        x.sheet(0, 2, 40);
        for (int i = 0; i < 40; i++) {
            Check.due("item " + i, x.item(0, 2, i), 0);
            Check.due("another SHEET's", x.item(1, 2, i), 6);
        }
        x.sheet(1, -1, 0);
        x.sheet(1, 4, 40);
        Check.due("of another sort", x.item(1, 4, 0) + x.item(1, 4, 39), 0);
    }

    /** "narrowed to its sort (booleans: whether it isn't 0)" */
    private static void putNarrows() {
        int[] values = {0, 1, -1, 127, 128, 129, 255, 256, 257, -128, -129, 32767, 32768, 32769, 65535, 65536, 65537, -32768,
            -32769, 0x10000, 0x1000000, MIN, MAX, MIN + 1};
        int[][] due = new int[values.length][];
        for (int i = 0; i < values.length; i++) {
            int v = values[i];
            int b = v & 0xFF;
            int s = v & 0xFFFF;
            due[i] = new int[] {b > 127 ? b - 256 : b, s > 32767 ? s - 65536 : s, v, v, v == 0 ? 0 : 1};
        }
        for (int sort = 0; sort < 5; sort++) {
            BurstValley x = new BurstValley();
            x.sheet(0, sort, 3);
            for (int i = 0; i < values.length; i++) {
                Check.due("put " + values[i], x.put(0, 1, values[i]), 1);
                Check.due(values[i] + " of sort " + sort, x.item(0, sort, 1), due[i][sort]);
            }
            Check.due("its neighbours", x.item(0, sort, 0) + x.item(0, sort, 2), 0);
            x.put(0, 1, 0);
            Check.due("0 again", x.item(0, sort, 1), 0);
        }
    }

    /** "-12 a place outside" */
    private static void putWithin() {
        for (int sort = 0; sort < 5; sort++) {
            BurstValley x = new BurstValley();
            x.sheet(0, sort, 3);
            x.sheet(1, sort, 3);
            for (int i : new int[] {-1, 3, 4, 40, 41, MIN, MAX}) {
                Check.due("put at " + i, x.put(0, i, 1), OUTSIDE);
                Check.due("item at " + i, x.item(0, sort, i), OUTSIDE);
            }
            for (int i = 0; i < 3; i++) {
                Check.due("nothing was put", x.item(0, sort, i) + x.item(1, sort, i), 0);
                Check.due("put", x.put(0, i, 1), 1);
                Check.due("item", x.item(0, sort, i), 1);
            }
        }
    }

    /** "taken for a sort", "-13 a thing of another kind" */
    private static void itemOfItsSort() {
        for (int sort = 0; sort < 5; sort++) {
            BurstValley x = new BurstValley();
            x.sheet(2, sort, 2);
            x.put(2, 1, 1);
            for (int as = 0; as < 5; as++) {
                Check.due(sort + " taken for " + as, x.item(2, as, 1), as == sort ? 1 : OTHER_KIND);
                Check.due(sort + " taken for " + as + ", outside", x.item(2, as, 2), as == sort ? OUTSIDE : OTHER_KIND);
            }
        }
    }

    /** "(An item may be as low as these, too.)" */
    private static void itemsAsLowAsRefusals() {
        for (int sort = 0; sort < 4; sort++) {
            BurstValley x = new BurstValley();
            x.sheet(0, sort, 1);
            for (int v = -15; v < 0; v++) {
                Check.due("put " + v, x.put(0, 0, v), 1);
                Check.due("item " + v, x.item(0, sort, 0), v);
            }
        }
    }

    private static void shelvesHoldNothingAtFirst() {
        BurstValley x = rows();
        for (int shelf = 0; shelf < 4; shelf++) {
            for (int as = 0; as < 7; as++) {
                Check.due("taken", x.taken(shelf, as), NOTHING);
            }
            for (int as = 10; as < 15; as++) {
                Check.due("taken", x.taken(shelf, as), NOTHING);
            }
            Check.due("deal", x.deal(shelf, 0, 5), 0);
        }
    }

    private static void shelfOfWhatThereIs() {
        BurstValley x = new BurstValley();
        Check.due("no ROW", x.shelf(0, 0, 0), BAD);
        Check.due("no CLAIM", x.shelf(0, 1, 0), BAD);
        Check.due("a missing SHEET", x.shelf(0, 2, 0), 1);
        Check.due("nothing", x.taken(0, 10), NOTHING);
        BurstValley y = rows();
        for (int shelf = 0; shelf < 4; shelf++) {
            y.shelf(shelf, shelf == 3 ? 1 : 0, shelf == 3 ? 1 : shelf);
        }
        for (int shelf = 0; shelf < 4; shelf++) {
            Check.due("each its own", y.taken(shelf, 0), shelf == 3 ? 1 : shelf);
        }
        Check.due("a missing SHEET instead", y.shelf(2, 2, 3), 1);
        Check.due("is nothing", y.taken(2, 0), NOTHING);
        Check.due("nothing instead", y.shelf(3, 3, 0), 1);
        Check.due("is nothing", y.taken(3, 0), NOTHING);
        Check.due("the others stay", y.taken(1, 2), 1);
    }

    /** "the row that SHEET n has now (2; nothing, if missing)" */
    private static void shelfHoldsTheRowOfThen() {
        BurstValley x = new BurstValley();
        x.sheet(0, 1, 3);
        x.shelf(0, 2, 0);
        x.sheet(0, 4, 40);
        x.shelf(1, 2, 0);
        x.sheet(0, -1, 0);
        x.shelf(2, 2, 0);
        Check.due("the first row", x.taken(0, 11), 3);
        Check.due("the second row", x.taken(1, 14), 40);
        Check.due("missing", x.taken(2, 10), NOTHING);
        x.sheet(0, 2, 7);
        Check.due("missing still", x.taken(2, 12), NOTHING);
        Check.due("the first row still", x.taken(0, 11), 3);
    }

    /** "it's number": the greatest that there are */
    private static void numbersOfTheLast() {
        BurstValley x = new BurstValley();
        for (int i = 0; i < 16; i++) {
            if (i % 3 == 0) {
                x.clock(0, 1, 0, 9);
            } else if (i % 3 == 1) {
                x.mark(0, 0, 0);
            } else {
                x.word(0, 1, 0, 0);
            }
            x.shelf(0, 0, i);
            Check.due("ROW " + i, x.taken(0, 0), i);
            Check.due("of its KIND", x.taken(0, 1 + i % 3), i);
            Check.due("of no other", x.taken(0, 1 + (i + 1) % 3), OTHER_KIND);
            Check.due("no CLAIM", x.taken(0, 5), OTHER_KIND);
        }
        BurstValley y = Edges.full();
        y.shelf(3, 1, 15);
        Check.due("CLAIM 15", y.taken(3, 5), 15);
        Check.due("no CLAIM 16", y.shelf(3, 1, 16), BAD);
    }

    private static void kinds(BurstValley x, int shelf, int number, int... kinds) {
        for (int as = 0; as < 7; as++) {
            boolean isOne = false;
            for (int kind : kinds) {
                isOne |= kind == as;
            }
            Check.due("KIND " + as, x.taken(shelf, as), isOne ? number : OTHER_KIND);
        }
        for (int as = 10; as < 15; as++) {
            Check.due("no row", x.taken(shelf, as), OTHER_KIND);
        }
    }

    /** "of their KIND as it is now" */
    private static void kindAsItIsNow() {
        BurstValley x = rows();
        x.shelf(0, 0, 2);
        kinds(x, 0, 2, 0, 3);
        x.side(3, 1);
        x.doubt(1, true);
        kinds(x, 0, 2, 0, 3, 4);
        x.side(3, 2);
        kinds(x, 0, 2, 0, 3, 4);
        x.doubt(1, false);
        kinds(x, 0, 2, 0, 3, 4);
        x.tear(2, true);
        kinds(x, 0, 2, 0, 3, 4);
        x.doubt(2, false);
        kinds(x, 0, 2, 0, 3);
        BurstValley y = rows();
        y.doubt(0, true);
        y.shelf(0, 0, 0);
        y.shelf(1, 0, 1);
        kinds(y, 0, 0, 0, 1);
        kinds(y, 1, 1, 0, 2);
        y.tear(0, true);
        kinds(y, 0, 0, 0, 1);
        y.shelf(2, 1, 1);
        kinds(y, 2, 1, 0, 5);
        y.fund(9);
        y.offer(0, 4);
        kinds(y, 2, 1, 0, 5);
        y.keep();
        y.offer(1, 4);
        kinds(y, 2, 1, 0, 5, 6);
        y.again();
        kinds(y, 2, 1, 0, 5);
    }

    /** "nothing, if there is no such one any more" */
    private static void nothingIfThereIsNoSuchOneAnyMore() {
        BurstValley x = rows();
        x.keep();
        x.mark(1, 2, 3);
        x.thing(0, 101, 9);
        x.claim(0, 2);
        x.shelf(0, 0, 3);
        x.shelf(1, 1, 2);
        x.shelf(2, 0, 2);
        x.shelf(3, 1, 1);
        kinds(x, 0, 3, 0, 2);
        kinds(x, 1, 2, 0, 5);
        x.again();
        for (int shelf = 0; shelf < 2; shelf++) {
            Check.due("nothing", x.taken(shelf, 0), NOTHING);
            Check.due("nothing", x.taken(shelf, 12), NOTHING);
            Check.due("no KIND", x.taken(shelf, 7), BAD);
            Check.due("no DEAL", x.deal(shelf, 0, 5), 0);
        }
        kinds(x, 2, 2, 0, 3);
        kinds(x, 3, 1, 0, 5);
        x.word(1, 1, 0, 0);
        kinds(x, 0, 3, 0, 3);
        Check.due("CLAIM 2 isn't there yet", x.taken(1, 5), NOTHING);
        x.thing(0, 101, 9);
        x.claim(0, 2);
        kinds(x, 1, 2, 0, 5);
    }

    /** "for a row of sort as - 10 (as 10 to 14): how many items" */
    private static void takenForARow() {
        for (int sort = 0; sort < 5; sort++) {
            for (int n : new int[] {0, 1, 40}) {
                BurstValley x = new BurstValley();
                x.sheet(1, sort, n);
                x.shelf(2, 2, 1);
                for (int as = 10; as < 15; as++) {
                    Check.due("taken for " + as, x.taken(2, as), as == 10 + sort ? n : OTHER_KIND);
                }
                for (int as = 0; as < 7; as++) {
                    Check.due("no thing", x.taken(2, as), OTHER_KIND);
                }
                for (int as : new int[] {-1, 7, 8, 9, 15, MIN, MAX}) {
                    Check.due("no such as", x.taken(2, as), BAD);
                }
            }
        }
    }

    private static final int[] XS = {0, 1, -1, 2, -3, MAX, MAX - 1, MAX - 2, MIN, MIN + 1, MIN + 2, 1 << 30, -(1 << 30),
        715827883};

    /** "ints that wrap" */
    private static void dealsAtTheirEdges() {
        BurstValley x = rows();
        x.shelf(0, 0, 0);
        x.shelf(1, 0, 1);
        x.shelf(2, 0, 2);
        for (int v : XS) {
            // clock: n 0, r 4, a 40. mark: n 1, r 5, a 60. word: n 2, r 3, a 6.
            deals(x, 0, v, v + 40 ^ 0, (v + 40) * 2, (v + 40) * 2 - 4, v / 4);
            deals(x, 1, v, v + 60, (v + 60) * 2, (v + 60) * 2 - 5 + 61, v / 4);
            deals(x, 2, v, v + 6, -((v + 6) * 2), -((v + 6) * 2) - 3, v + 3);
        }
        BurstValley y = rows();
        y.shelf(2, 0, 2);
        y.shelf(3, 1, 1);
        y.doubt(0, true);
        for (int v : XS) {
            deals(y, 2, v, v - 1 + 6, -((v + 5) * 2) * 3, -((v + 5) * 2) * 3 - 3, v + 3);
            // claim: n 1, r 8, a 91.
            deals(y, 3, v, v + 91, (v + 91) * 2, ((v + 91) * 2 - 8) * 2, -(v / 7));
        }
        y.fund(9);
        y.offer(1, 1);
        for (int v : XS) {
            int pays = (v + 96) * 2;
            deals(y, 3, v, v + 96, pays, (pays - 8) * 2 + (1 + 96) * 2, -(v / 7));
        }
    }

    private static void deals(BurstValley x, int shelf, int v, int fits, int pays, int hangs, int tells) {
        Check.due("fits " + v, x.deal(shelf, 0, v), fits);
        Check.due("pays " + v, x.deal(shelf, 1, v), pays);
        Check.due("hangs " + v, x.deal(shelf, 2, v), hangs);
        Check.due("tells " + v, x.deal(shelf, 3, v), tells);
    }

    private static void dealsOfTheLastNumbers() {
        BurstValley x = new BurstValley();
        for (int i = 0; i < 13; i++) {
            x.mark(0, 0, 0);
        }
        x.clock(11, 99, 179, 918);
        x.mark(11, 999, 999);
        x.word(3, 7, 29, 29);
        x.shelf(0, 0, 13);
        x.shelf(1, 0, 14);
        x.shelf(2, 0, 15);
        for (int v : XS) {
            deals(x, 0, v, v + 179 ^ 13, (v + 179 ^ 13) * 2, (v + 179 ^ 13) * 2 - 11, v / -2);
            deals(x, 1, v, v + 999, (v + 999) * 2, (v + 999) * 2 - 11 + 1000, v / -3);
            deals(x, 2, v, v + 7, -((v + 7) * 2), -((v + 7) * 2) - 3, (v + 3) / -12);
        }
        BurstValley y = Edges.full();
        // CLAIM 15 is for THING 3 of HOUSE 3 in REACH 3, worth 13.
        y.shelf(0, 1, 15);
        for (int v : XS) {
            deals(y, 0, v, v + 13, (v + 13) * 2, ((v + 13) * 2 - 3) * 2, -(v / -12));
        }
    }

    /** "x by (r - n), the rest away" */
    private static void restsGoAway() {
        BurstValley x = rows();
        x.shelf(0, 0, 0);
        x.shelf(1, 1, 0);
        int[][] cases = {{3, 0, 0}, {4, 1, 0}, {7, 1, -1}, {8, 2, -1}, {-3, 0, 0}, {-4, -1, 0}, {-7, -1, 1}, {-8, -2, 1}};
        for (int[] c : cases) {
            Check.due(c[0] + " by 4", x.deal(0, 3, c[0]), c[1]);
            Check.due(c[0] + " by 7, turned", x.deal(1, 3, c[0]), c[2]);
        }
        BurstValley y = new BurstValley();
        y.mark(0, 0, 0);
        y.mark(0, 5, 5);
        y.shelf(0, 0, 1);
        for (int v : XS) {
            Check.due(v + " by -1 (the lowest wraps)", y.deal(0, 3, v), 0 - v);
        }
    }

    /** "(-15 if r is n; that is all that deal() answers then)" */
    private static void dealByZero() {
        for (int n = 0; n < 12; n++) {
            BurstValley x = new BurstValley();
            for (int i = 0; i < n; i++) {
                x.mark(0, 0, 0);
            }
            x.clock(n, 5, 5, 9);
            x.shelf(0, 0, n);
            for (int v : new int[] {0, 1, -1, MIN, MAX}) {
                Check.due("clock " + n, x.deal(0, 3, v), BY_ZERO);
                Check.due("fits all the same", x.deal(0, 0, v), v + 5 ^ n);
            }
        }
        for (int n = 0; n < 4; n++) {
            BurstValley x = new BurstValley();
            for (int i = 0; i <= n; i++) {
                x.word(n, 1, 0, 0);
            }
            x.shelf(0, 0, n);
            Check.due("word " + n, x.deal(0, 3, -3), BY_ZERO);
            x.doubt(0, true);
            Check.due("doubted " + n, x.deal(0, 3, 7), BY_ZERO);
        }
        BurstValley y = new BurstValley();
        y.mark(0, 5, 5);
        y.house(0, 5, 5);
        y.person(1, 0, 0);
        y.thing(0, 101, 9);
        y.claim(0, 0);
        y.shelf(0, 0, 0);
        y.shelf(1, 1, 0);
        Check.due("mark", y.deal(0, 3, 7), BY_ZERO);
        Check.due("claim", y.deal(1, 3, 7), BY_ZERO);
        y.fund(9);
        y.offer(0, 1);
        Check.due("paid", y.deal(1, 3, 7), BY_ZERO);
    }

    private static void trace(BurstValley x, int... bodies) {
        Check.due("many(15)", x.many(15), bodies.length);
        for (int i = 0; i < bodies.length; i++) {
            Check.due("trace(" + i + ")", x.trace(i), bodies[i]);
        }
        for (int i : new int[] {-1, bodies.length, 29, 30, 31, MIN, MAX}) {
            Check.due("trace(" + i + ")", x.trace(i), NONE);
        }
    }

    /** "0, and no TRACE then: no such SHELF, deal, nothing, a row of a SHEET" */
    private static void noTraceOfNoDeal() {
        int[][] cases = {{-1, 0}, {4, 0}, {MIN, 0}, {MAX, 0}, {0, -1}, {0, 4}, {0, MIN}, {0, MAX}, {1, 0}, {1, 3}, {2, 0}, {2, 3},
            {3, 1}};
        for (int[] c : cases) {
            BurstValley x = rows();
            x.sheet(0, 2, 5);
            x.shelf(0, 0, 0);
            x.shelf(1, 2, 0);
            x.shelf(3, 2, 1);
            x.deal(0, 1, 5);
            trace(x, 11, 20, 10);
            Check.due("deal " + c[0] + " " + c[1], x.deal(c[0], c[1], 5), 0);
            trace(x);
        }
        trace(new BurstValley());
    }

    /** "numbers of the bodies that ran in the latest deal(), as they began (left first)" */
    private static void traceOfTheLatestDeal() {
        BurstValley x = rows();
        x.shelf(0, 0, 0);
        x.shelf(1, 0, 1);
        x.shelf(2, 0, 2);
        x.shelf(3, 1, 1);
        x.deal(1, 2, 5);
        trace(x, 30, 12, 11, 10, 10);
        x.deal(0, 0, 5);
        trace(x, 20, 10);
        x.deal(2, 2, 5);
        trace(x, 12, 40, 11, 10);
        x.doubt(0, true);
        x.deal(2, 2, 5);
        trace(x, 12, 51, 40, 11, 50, 10);
        x.fund(5);
        x.offer(1, 5);
        x.deal(3, 2, 5);
        trace(x, 70, 60, 12, 11, 71, 10, 11, 71, 10);
        x.shelf(3, 3, 0);
        x.sheet(0, 0, 1);
        x.many(0);
        x.keep();
        x.again();
        trace(x, 70, 60, 12, 11, 71, 10, 11, 71, 10);
    }

    /** "How many", at their most and at none */
    private static void manyOfAll() {
        BurstValley x = new BurstValley();
        for (int what = 0; what <= 16; what++) {
            Check.due("none of " + what, x.many(what), 0);
        }
        BurstValley y = Edges.full();
        y.pay();
        for (int i = 0; i < 11; i++) {
            y.fund(9999);
        }
        y.round(0x7F, 0);
        for (int i = 0; i < 30; i++) {
            y.feed(0, 8);
        }
        for (int i = 0; i < 16; i++) {
            y.tear(i, true);
            y.offer(i, 1);
        }
        y.fund(99);
        int[] due = {999, 10, 16, 16, 16, 16, 12, 12, 8, 16, 16, 24, 99999, 7, 240, 0, 9999};
        for (int what = 0; what < due.length; what++) {
            Check.due("most of " + what, y.many(what), due[what]);
        }
    }
}
