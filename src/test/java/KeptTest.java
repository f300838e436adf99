/** Promises 58 and 59: what is kept, and what is not. */
final class KeptTest {
    private static final int NONE = BurstValley.NONE;

    public static void main(String[] args) {
        nothingKept();
        allThatIsKept();
        keptStays();
        notKept();
        Check.finish("KeptTest");
    }

    private static void nothingKept() {
        BurstValley x = new BurstValley();
        x.pond(5);
        Check.due("nothing is kept", x.again(), NONE);
        Check.due("stays", x.many(16), 5);
        Check.due("keep", x.keep(), 1);
        Check.due("again", x.again(), 1);
    }

    private static BurstValley town() {
        BurstValley x = new BurstValley();
        x.reach(2, 3, 4);
        x.pond(500);
        x.gate(7, 100);
        ValleyTest.tellTable(x, 1, 40, 50);
        x.house(1, 5, 20);
        x.word(1, 3, 4, 9);
        x.mark(3, 0, 900);
        x.tear(1, true);
        x.side(2, 1);
        x.side(1, 2);
        x.doubt(1, true);
        x.person(1, 0, 2);
        x.person(2, 0, 2);
        x.safe(0, true);
        x.name(1, -1);
        x.thing(0, 201, 30);
        x.find(2, 1);
        x.days(5);
        ActTest.read(x, "pay 50; rank 2;");
        x.claim(0, 0);
        x.claim(1, 0);
        x.proof(0, 1);
        x.fund(100);
        x.offer(1, 9);
        return x;
    }

    private static void check(BurstValley x) {
        int[] due = {5, 1, 2, 1, 2, 1, 1, 1, 1, 2, 1, 1, 91};
        for (int what = 0; what < due.length; what++) {
            Check.due("many(" + what + ")", x.many(what), due[what]);
        }
        Check.due("THE POND", x.many(16), 500);
        Check.due("DEPTH by the TABLE", x.depth(1, 0, 0, 1), 7);
        Check.due("DEPTH by the GATE", x.depth(2, 0, 0, 101), 1);
        Check.due("falls", x.falls(1, 0, 0), 3);
        Check.due("lets", x.lets(0, 0, 4), 1);
        Check.due("lets", x.lets(0, 0, 10), 0);
        Check.due("lets", x.lets(1, 0, 4), 1);
        Check.due("possible", x.possible(-1), 12);
        Check.due("the list", x.list(-1), 1);
        Check.due("lies", x.lies(0, 1, 0), 6);
        Check.due("OWED", x.claimOf(0, 5, 4), 15);
        Check.due("OWED ahead", x.claimOf(0, 4, 4), 0);
        Check.due("RANK", x.claimOf(0, 5, 5), 2);
        Check.due("not PAID", x.claimOf(0, 5, 6), NONE);
        Check.due("PAID", x.claimOf(1, 5, 6), 9);
        Check.due("PROOFS", x.claimOf(0, 5, 2), 1);
    }

    private static void spoil(BurstValley x) {
        x.reach(2, 9, 9);
        x.pond(9);
        x.gate(1, 1);
        ValleyTest.tellTable(x, 1, 3);
        x.house(0, 1, 20);
        x.doubt(2, true);
        x.doubt(1, false);
        x.side(2, 2);
        x.side(1, 0);
        x.clock(0, 1, 1, 9);
        x.tear(0, true);
        x.tear(1, false);
        x.person(1, 0, 2);
        x.safe(0, false);
        x.safe(1, true);
        x.name(1, -1);
        x.thing(0, 201, 30);
        x.find(2, 2);
        x.days(5);
        ActTest.read(x, "pay 70; rank 3;");
        x.claim(1, 1);
        x.proof(0, -1);
        x.fund(1000);
        x.pay();
    }

    private static void allThatIsKept() {
        BurstValley x = town();
        check(x);
        Check.due("keep", x.keep(), 1);
        spoil(x);
        Check.due("again", x.again(), 1);
        check(x);
        Check.due("SIDES", x.side(2, 1), 1);
        Check.due("SIDES", x.side(1, 2), 2);
        Check.due("who is DOUBTED", x.hangs(0), 78);
        Check.due("WIDTH and ROUGH", x.reach(2, 3, 4), 34);
        Check.due("the GATE", x.gate(7, 100), 7);
        Check.due("the next VERSION", ActTest.read(x, "pay 1;"), 1);
        Check.due("OWED", x.claimOf(0, 5, 4), 0);
        Check.due("again", x.again(), 1);
        check(x);
    }

    private static void keptStays() {
        BurstValley x = new BurstValley();
        x.pond(1);
        x.keep();
        x.pond(2);
        x.again();
        x.pond(3);
        x.again();
        Check.due("what was kept stays", x.many(16), 1);
        x.pond(4);
        x.keep();
        x.pond(5);
        x.again();
        Check.due("the latest", x.many(16), 4);
    }

    private static void notKept() {
        BurstValley x = town();
        x.keep();
        x.feed(0x20202020L, 4);
        x.round(0b11, 0);
        x.alterRow(0, 1, 77);
        x.sheet(0, 2, 5);
        x.put(0, 0, 66);
        x.shelf(0, 0, 0);
        x.shelf(1, 2, 0);
        x.deal(0, 0, 1);
        x.again();
        Check.due("THE TAPE", x.many(14), 4);
        Check.due("ROWS of THE ROUND", x.many(13), 2);
        Check.due("as they are", x.row(0, 1), 77);
        Check.due("judge", x.judge(), 1);
        Check.due("SHEETS", x.item(0, 2, 0), 66);
        Check.due("SHELVES", x.taken(0, 3), 0);
        Check.due("SHELVES", x.taken(1, 12), 5);
        Check.due("THE TRACE", x.trace(0), 10);
        Check.due("THE TRACE", x.many(15), 1);
    }
}
