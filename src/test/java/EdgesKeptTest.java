import java.util.List;
import java.util.function.Consumer;

/** Boundary cases of promises 1, 58 and 59, sentence by sentence. */
final class EdgesKeptTest {
    private static final int BAD = BurstValley.BAD;
    private static final int FULL = BurstValley.FULL;
    private static final int NONE = BurstValley.NONE;

    public static void main(String[] args) {
        nothingIsThere();
        nothingIsKept();
        eachPartComesBack();
        allComesBackAtOnce();
        whatIsNotKeptStays();
        tapeIsNeitherKeptNorLost();
        keptLatest();
        keptOfANewObject();
        numbersGoOnFromWhatWasKept();
        objectsOfTheirOwn();
        fiveHundredAndTwelveCalls();
        Check.finish("EdgesKeptTest");
    }

    /** "DAY 0; nothing is there; nothing is kept." */
    private static void nothingIsThere() {
        BurstValley x = new BurstValley();
        for (int what = 0; what <= 16; what++) {
            Check.due("many(" + what + ")", x.many(what), 0);
        }
        Check.due("no HOUSE", x.falls(0, 0, 0), BAD);
        Check.due("no ROW", x.tear(0, true), BAD);
        Check.due("no PERSON", x.safe(0, true), BAD);
        Check.due("no FIND", x.whose(0), BAD);
        Check.due("no CLAIM", x.claimOf(0, 0, 0), BAD);
        Check.due("no SHEET", x.put(0, 0, 0), -11);
        Check.due("nothing on a SHELF", x.taken(0, 0), -11);
        Check.due("no ROUND", x.judge(), NONE);
        Check.due("no TRACE", x.trace(0), NONE);
        Check.due("nothing is OVER", x.odd(0) + x.odd(1), 0);
        Check.due("nobody is PAID", x.pay(), 0);
        Check.due("none are UNLIKE", x.likest(0), NONE);
        Check.due("nothing is kept", x.again(), NONE);
    }

    /** "NONE: nothing is kept." */
    private static void nothingIsKept() {
        BurstValley x = new BurstValley();
        x.pond(7);
        x.house(0, 5, 5);
        x.days(3);
        Check.due("again", x.again(), NONE);
        Check.due("THE POND stays", x.many(16), 7);
        Check.due("HOUSES stay", x.many(1), 1);
        Check.due("DAY stays", x.many(0), 3);
        Check.due("keep", x.keep(), 1);
        Check.due("again", x.again(), 1);
        Check.due("again", x.again(), 1);
    }

    /** "All but THE TAPE, ROWS of THE ROUND, SHEETS, SHELVES, THE TRACE is kept" */
    private static void eachPartComesBack() {
        List<Consumer<BurstValley>> changes = List.of(
                x -> x.reach(0, 1, 9), x -> x.reach(11, 50, 2), x -> x.pond(1), x -> x.gate(99, 0), x -> x.gate(7, 21),
                x -> x.house(2, 1, 1), x -> x.clock(0, 1, 1, 9), x -> x.mark(0, 0, 0), x -> x.word(0, 1, 0, 0),
                x -> x.tear(0, true), x -> x.tear(4, false), x -> x.side(0, 2), x -> x.side(2, 0), x -> x.doubt(1, true),
                x -> x.doubt(2, false), x -> x.person(1, 0, 0), x -> x.safe(0, true), x -> x.safe(3, false),
                x -> x.name(1, -1), x -> x.thing(1, 101, 7), x -> x.find(1, 4), x -> x.days(1), x -> x.read(),
                x -> x.claim(3, 2), x -> x.proof(2, -1), x -> x.proof(2, 0), x -> x.fund(1), x -> x.offer(0, 1), x -> x.pay());
        BurstValley kept = Edges.some();
        kept.keep();
        List<Integer> due = Edges.look(kept);
        for (int i = 0; i < changes.size(); i++) {
            BurstValley x = Edges.some();
            x.keep();
            changes.get(i).accept(x);
            Check.isTrue("change " + i + " is seen", !Edges.look(x).equals(due));
            BurstValley y = Edges.some();
            y.keep();
            changes.get(i).accept(y);
            y.again();
            Check.isTrue("change " + i + " is undone", Edges.look(y).equals(due));
            BurstValley z = Edges.some();
            z.keep();
            z.sure(0);
            z.whose(0);
            changes.get(i).accept(z);
            z.sure(0);
            z.whose(0);
            z.again();
            Check.isTrue("change " + i + " is undone, asked between", Edges.look(z).equals(due));
        }
    }

    private static void allComesBackAtOnce() {
        BurstValley kept = Edges.some();
        kept.keep();
        List<Integer> due = Edges.look(kept);
        BurstValley x = Edges.some();
        x.keep();
        for (int r = 0; r < 12; r++) {
            x.reach(r, 1 + r, 9);
        }
        for (int way = 0; way < 3; way++) {
            Edges.table(x, way, 9, 8, 7, 6, 5, 4, 3, 2);
        }
        x.house(3, 1, 1);
        x.thing(3, 101, 5);
        x.person(1, 3, 5);
        x.claim(4, 3);
        x.offer(4, 5);
        x.offer(0, 1);
        x.doubt(0, true);
        x.doubt(1, true);
        x.doubt(2, false);
        for (int i = 0; i < 5; i++) {
            x.tear(i, i % 2 == 0);
            x.safe(i, i % 2 == 0);
            x.side(i, 2 - i % 2);
        }
        Edges.read(x, "pay 1; bar if kin=1; rank 4;");
        x.days(50);
        Edges.read(x, "pay 2; bar if kin=2; rank 5;");
        x.again();
        Edges.table(x, 1, 150);
        Check.isTrue("as it was kept", Edges.look(x).equals(due));
    }

    private static void whatIsNotKeptStays() {
        BurstValley x = Edges.some();
        x.keep();
        x.round(0b0101, 3);
        x.alterRow(0, 1, 55);
        x.sheet(0, 3, 2);
        x.put(0, 1, -9);
        x.sheet(1, -1, 0);
        x.sheet(2, 0, 1);
        x.shelf(0, 3, 0);
        x.shelf(3, 2, 2);
        x.deal(1, 3, 5);
        int bodies = x.many(15);
        x.again();
        Check.due("ROWS of THE ROUND", x.many(13), 2);
        Check.due("as they were altered", x.row(0, 1), 55);
        Check.due("READER of that ROUND", x.judge(), 1);
        Check.due("SHEET 0", x.item(0, 3, 1), -9);
        Check.due("SHEET 1", x.put(1, 0, 0), -11);
        Check.due("SHEET 2", x.item(2, 0, 0), 0);
        Check.due("SHELF 0", x.taken(0, 0), -11);
        Check.due("SHELF 3", x.taken(3, 10), 1);
        Check.due("THE TRACE", x.many(15), bodies);
        BurstValley y = Edges.some();
        y.keep();
        y.dropRow();
        y.dropRow();
        y.dropRow();
        y.sheet(0, -1, 0);
        y.deal(3, 0, 0);
        y.again();
        Check.due("no ROWS", y.many(13), 0);
        Check.due("no SHEET", y.put(0, 0, 0), -11);
        Check.due("no TRACE", y.many(15), 0);
    }

    private static void tapeIsNeitherKeptNorLost() {
        BurstValley x = new BurstValley();
        x.feed('l' | 'a' << 8 | 't' << 16 | (long) 'e' << 24, 4);
        x.keep();
        x.feed('7' | ';' << 8, 2);
        x.again();
        Check.due("six bytes", x.many(14), 6);
        Check.due("late7;", x.read(), 0);
        x.again();
        Check.due("used up all the same", x.many(14), 0);
        Check.due("VERSIONS are as kept", x.many(8), 0);
    }

    /** "It becomes what was kept latest (which stays)" */
    private static void keptLatest() {
        BurstValley x = new BurstValley();
        x.pond(1);
        x.keep();
        for (int i = 0; i < 3; i++) {
            x.pond(100 + i);
            x.house(0, 1, 1);
            Check.due("again", x.again(), 1);
            Check.due("what was kept", x.many(16), 1);
            Check.due("no HOUSE", x.many(1), 0);
        }
        x.pond(2);
        x.house(0, 1, 1);
        Check.due("keep", x.keep(), 1);
        x.pond(3);
        x.house(0, 1, 1);
        Check.due("again", x.again(), 1);
        Check.due("the latest", x.many(16), 2);
        Check.due("one HOUSE", x.many(1), 1);
        x.keep();
        x.keep();
        x.again();
        Check.due("the same", x.many(16), 2);
    }

    private static void keptOfANewObject() {
        BurstValley x = new BurstValley();
        x.keep();
        List<Integer> due = Edges.look(x);
        BurstValley y = new BurstValley();
        y.keep();
        y.pond(500);
        y.reach(5, 5, 5);
        y.house(0, 5, 5);
        y.word(0, 1, 0, 0);
        y.person(1, 0, 0);
        y.name(1, 0);
        y.thing(0, 101, 5);
        y.find(1, 1);
        y.read();
        y.claim(0, 0);
        y.proof(0, -1);
        y.fund(5);
        y.offer(0, 5);
        y.days(5);
        y.again();
        Check.isTrue("as new", Edges.look(y).equals(due));
    }

    private static void numbersGoOnFromWhatWasKept() {
        BurstValley x = new BurstValley();
        for (int i = 0; i < 9; i++) {
            x.house(0, 5, 5);
        }
        x.keep();
        for (int i = 0; i < 3; i++) {
            Check.due("the tenth", x.house(i, 5, 5), 9);
            Check.due("the eleventh", x.house(0, 5, 5), FULL);
            x.again();
            Check.due("nine", x.many(1), 9);
            Check.due("no number 9", x.sure(9), BAD);
        }
        BurstValley y = new BurstValley();
        y.house(0, 5, 5);
        y.person(1, 0, 0);
        y.person(2, 0, 0);
        y.thing(0, 101, 100);
        y.keep();
        y.claim(0, 0);
        y.safe(1, true);
        y.fund(9);
        y.offer(0, 9);
        y.proof(0, -1);
        y.again();
        Check.due("CLAIMED anew", y.claim(0, 0), 0);
        Check.due("not PAID", y.claimOf(0, 0, 6), NONE);
        Check.due("no PROOFS", y.claimOf(0, 0, 2), 0);
        Check.due("not SAFE", y.safe(1, false), 0);
        Check.due("a new PERSON isn't SAFE", y.person(3, 0, 0), 2);
        y.safe(2, true);
        y.again();
        y.person(3, 0, 0);
        Check.due("a new PERSON isn't SAFE", y.safe(2, false), 0);
        y.word(0, 1, 0, 0);
        y.tear(0, true);
        y.again();
        y.mark(0, 0, 0);
        Check.due("a new ROW isn't TORN", y.tear(0, false), 0);
        Check.due("nor counts as a WORD", y.lets(0, 2, 29), 1);
        y.again();
        y.word(0, 1, 0, 0);
        Check.due("a WORD again", y.possible(-1), 1);
    }

    private static void objectsOfTheirOwn() {
        BurstValley x = Edges.some();
        BurstValley y = new BurstValley();
        y.keep();
        Check.due("another object has nothing", y.many(1), 0);
        Check.due("another object has nothing", y.item(0, 0, 0), -11);
        y.pond(9);
        y.deal(0, 0, 0);
        Check.due("the first stays", x.many(16), 3000);
        Check.due("the first's TRACE stays", x.many(15) > 0 ? 1 : 0, 1);
    }

    /** "An object is used for at most 512 calls": the last of them answers as the first one. */
    private static void fiveHundredAndTwelveCalls() {
        BurstValley x = new BurstValley();
        x.house(0, 9, 0);
        x.gate(99, 0);
        for (int call = 3; call <= 511; call++) {
            boolean isEven = call % 2 == 0;
            Check.due("call " + call, x.pond(isEven ? 0 : 99), isEven ? 99 : 0);
        }
        Check.due("call 512", x.sure(0), 2);
    }
}
