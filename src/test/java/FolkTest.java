/** Promises 23 to 30: persons, the list, things. */
final class FolkTest {
    private static final int BAD = BurstValley.BAD;
    private static final int FULL = BurstValley.FULL;

    public static void main(String[] args) {
        person();
        safe();
        name();
        list();
        listChoosesWell();
        thing();
        lies();
        liesAtTheEnds();
        stillWaterCarries();
        find();
        whose();
        Check.finish("FolkTest");
    }

    private static void person() {
        BurstValley x = new BurstValley();
        Check.due("no HOUSE yet", x.person(0, 0, 0), BAD);
        x.house(0, 1, 0);
        int[][] wrong = {{-1, 0, 0}, {10, 0, 0}, {0, -1, 0}, {0, 1, 0}, {0, 0, -1}, {0, 0, 6}};
        for (int[] w : wrong) {
            Check.due("person refused", x.person(w[0], w[1], w[2]), BAD);
        }
        for (int i = 0; i < 16; i++) {
            Check.due("person", x.person(i % 10, 0, i % 6), i);
        }
        Check.due("seventeenth", x.person(0, 0, 0), FULL);
        Check.due("BAD ahead of FULL", x.person(10, 0, 0), BAD);
        Check.due("many(4)", x.many(4), 16);
    }

    private static void safe() {
        BurstValley x = new BurstValley();
        x.house(0, 1, 0);
        Check.due("none yet", x.safe(0, true), BAD);
        x.person(1, 0, 0);
        Check.due("isn't SAFE", x.safe(0, false), 0);
        Check.due("SAFE", x.safe(0, true), 1);
        Check.due("SAFE already", x.safe(0, true), 0);
        Check.due("not SAFE", x.safe(0, false), 1);
        Check.due("below", x.safe(-1, true), BAD);
        Check.due("above", x.safe(1, true), BAD);
    }

    private static void name() {
        BurstValley x = new BurstValley();
        Check.due("no such HOUSE", x.name(0, 0), BAD);
        Check.due("name", x.name(0, -1), 0);
        x.house(0, 1, 0);
        int[][] wrong = {{-1, 0}, {10, 0}, {0, -2}, {0, 1}};
        for (int[] w : wrong) {
            Check.due("name refused", x.name(w[0], w[1]), BAD);
        }
        for (int i = 1; i < 16; i++) {
            Check.due("name", x.name(9, 0), i);
        }
        Check.due("seventeenth", x.name(0, 0), FULL);
        Check.due("BAD ahead of FULL", x.name(0, 1), BAD);
        Check.due("many(5)", x.many(5), 16);
    }

    private static void list() {
        BurstValley x = new BurstValley();
        Check.due("TOO MANY of none", x.list(-1), 0);
        Check.due("NEVER of none", x.list(-2), 0);
        Check.due("no such PERSON", x.list(0), BAD);
        Check.due("no such what", x.list(-3), BAD);
        x.house(0, 1, 0);
        x.house(0, 1, 0);
        x.person(1, 0, 0);
        x.person(1, 0, 0);
        x.person(2, 1, 0);
        Check.due("nobody is on it", x.list(0), 0);
        x.name(1, -1);
        Check.due("TOO MANY", x.list(-1), 0);
        Check.due("one of two", x.list(0), 0);
        x.name(1, 0);
        Check.due("both", x.list(0), 1);
        Check.due("both", x.list(1), 1);
        x.name(1, 1);
        Check.due("fits nobody", x.list(-2), 1);
        Check.due("TOO MANY", x.list(-1), 1);
        x.name(1, 0);
        Check.due("fits, but TOO MANY", x.list(-2), 1);
        Check.due("TOO MANY", x.list(-1), 2);
        x.name(2, 1);
        Check.due("the third", x.list(2), 1);
        x.safe(2, true);
        Check.due("SAFE", x.list(2), 0);
        Check.due("and a NAME fits nobody", x.list(-2), 2);
        Check.due("TOO MANY", x.list(-1), 3);
        x.safe(2, false);
        Check.due("TOO MANY", x.list(-1), 2);
        Check.due("above", x.list(3), BAD);
    }

    /** NAMES without a HOUSE come first and must not take the only PERSON of one with a HOUSE. */
    private static void listChoosesWell() {
        BurstValley x = new BurstValley();
        x.house(0, 1, 0);
        x.house(0, 1, 0);
        x.person(1, 0, 0);
        x.person(1, 1, 0);
        x.name(1, -1);
        x.name(1, 0);
        Check.due("both stand", x.list(-1), 0);
        Check.due("SURELY 0", x.list(0), 1);
        Check.due("SURELY 1", x.list(1), 1);
        x.person(1, 1, 0);
        Check.due("SURELY 0 still", x.list(0), 1);
        Check.due("not 1 any more", x.list(1), 0);
    }

    private static void thing() {
        BurstValley x = new BurstValley();
        Check.due("no HOUSE yet", x.thing(0, 1, 1), BAD);
        x.house(0, 1, 0);
        int[][] wrong = {{-1, 1, 1}, {1, 1, 1}, {0, 0, 1}, {0, 100, 1}, {0, 800, 1}, {0, 801, 1}, {0, -1, 1},
            {0, -99, 1}, {0, 1, 0}, {0, 1, 1000}};
        for (int[] w : wrong) {
            Check.due("thing refused", x.thing(w[0], w[1], w[2]), BAD);
        }
        for (int i = 0; i < 12; i++) {
            Check.due("thing", x.thing(0, i % 2 == 0 ? 1 : 799, i % 2 == 0 ? 1 : 999), i);
        }
        Check.due("thirteenth", x.thing(0, 1, 1), FULL);
        Check.due("BAD ahead of FULL", x.thing(0, 0, 1), BAD);
        Check.due("many(6)", x.many(6), 12);
    }

    /** 160 goes down: in MINUTE START and k REACH k has 160 by 2, k times, and a little more later. */
    private static BurstValley burst() {
        BurstValley x = new BurstValley();
        x.pond(160);
        ValleyTest.tellTable(x, 0, 160);
        return x;
    }

    private static void lies() {
        BurstValley x = burst();
        x.house(0, 16, 0);
        x.house(0, 17, 0);
        x.thing(0, 1, 1);
        x.thing(0, 8, 1);
        x.thing(0, 9, 1);
        x.thing(1, 1, 1);
        x.thing(0, 5, 1);
        // The HOUSE falls: ROUGH of REACH 0 is 3. MINUTE 1: 107, 53. 2: 72, 62, 26. 3: 48, 55, 44, 13.
        Check.due("depth", x.depth(0, 0, 0, 1), 10);
        Check.due("depth", x.depth(0, 0, 1, 2), 6);
        Check.due("depth", x.depth(0, 0, 2, 3), 4);
        Check.due("goes on one", x.lies(1, 0, 0), 1);
        Check.due("goes on one", x.lies(2, 0, 0), 1);
        Check.due("goes on two", x.lies(4, 0, 0), 2);
        Check.due("at any START", x.lies(4, 0, 29), 2);
        Check.due("its HOUSE stands", x.lies(3, 0, 0), 100);
        Check.due("no water", x.lies(0, 1, 0), 100);
        int[][] wrong = {{-1, 0, 0}, {5, 0, 0}, {0, -1, 0}, {0, 3, 0}, {0, 0, -1}, {0, 0, 30}};
        for (int[] w : wrong) {
            Check.due("lies refused", x.lies(w[0], w[1], w[2]), BAD);
        }
    }

    private static void liesAtTheEnds() {
        BurstValley x = new BurstValley();
        x.pond(9999);
        ValleyTest.tellTable(x, 0, 999);
        x.house(9, 20, 0);
        x.thing(0, 105, 1);
        Check.due("out of the valley", x.lies(0, 0, 0), 12);
        BurstValley y = new BurstValley();
        y.pond(9999);
        y.gate(99, 179);
        y.house(0, 1, 0);
        y.thing(0, 101, 1);
        Check.due("falls in MINUTE 179: lies where it is", y.lies(0, 0, 0), 0);
        y.gate(99, 178);
        Check.due("falls in MINUTE 178: goes one on", y.lies(0, 0, 0), 1);
        y.gate(99, 177);
        Check.due("falls in MINUTE 177: goes two on", y.lies(0, 0, 0), 2);
    }

    /**
     * Ones stay in REACHES 0 to 6, too few to go on. Then 3 come: three HOUSES fall, by which ROUGH
     * of REACH 0 is 5, and nothing moves any more but the THING.
     */
    private static void stillWaterCarries() {
        BurstValley x = new BurstValley();
        for (int r = 0; r < 12; r++) {
            x.reach(r, 1, 2);
        }
        for (int h = 0; h < 3; h++) {
            x.house(0, 4, 0);
        }
        x.thing(0, 101, 1);
        x.pond(10);
        ValleyTest.tellTable(x, 0, 1, 1, 1, 1, 1, 1, 1, 0);
        x.gate(99, 150);
        Check.due("falls late", x.falls(0, 0, 0), 150);
        Check.due("still", x.depth(0, 0, 0, 151), 4);
        Check.due("still", x.depth(0, 0, 6, 151), 1);
        Check.due("dry", x.depth(0, 0, 7, 179), 0);
        Check.due("goes to the first dry REACH", x.lies(0, 0, 0), 7);
        x.gate(99, 175);
        Check.due("as far as the NIGHT goes", x.lies(0, 0, 0), 4);
    }

    private static void find() {
        BurstValley x = new BurstValley();
        int[][] wrong = {{-1, 0}, {8, 0}, {0, -1}, {0, 12}};
        for (int[] w : wrong) {
            Check.due("find refused", x.find(w[0], w[1]), BAD);
        }
        for (int i = 0; i < 12; i++) {
            Check.due("find", x.find(i % 8, 11), i);
        }
        Check.due("thirteenth", x.find(0, 0), FULL);
        Check.due("BAD ahead of FULL", x.find(8, 0), BAD);
        Check.due("many(7)", x.many(7), 12);
    }

    private static void whose() {
        BurstValley x = burst();
        Check.due("none yet", x.whose(0), BAD);
        x.house(0, 16, 0);
        x.house(1, 99, 0);
        x.thing(0, 305, 1);
        x.thing(0, 308, 1);
        x.thing(0, 405, 1);
        x.thing(1, 305, 1);
        x.find(3, 2);
        x.find(3, 1);
        x.find(4, 2);
        x.find(5, 2);
        x.find(3, 0);
        Check.due("goes on two", x.whose(0), 0b0001);
        Check.due("goes on one; what stands there is none", x.whose(1), 0b0010);
        Check.due("of its SORT", x.whose(2), 0b0100);
        Check.due("of no SORT", x.whose(3), 0);
        Check.due("nothing stays", x.whose(4), 0);
        x.word(0, 6, 0, 29);
        Check.due("in no POSSIBLE NIGHT", x.whose(0), 0);
        x.tear(0, true);
        Check.due("in some again", x.whose(0), 0b0001);
        Check.due("below", x.whose(-1), BAD);
        Check.due("above", x.whose(5), BAD);
        x.thing(0, 305, 7);
        Check.due("a new THING", x.whose(0), 0b10001);
    }
}
