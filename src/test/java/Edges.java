import java.util.ArrayList;
import java.util.List;
import java.util.function.IntUnaryOperator;

/** What the tests of boundary cases have in common. */
final class Edges {
    static final int BAD = BurstValley.BAD;
    static final int FULL = BurstValley.FULL;
    static final int NONE = BurstValley.NONE;
    static final int STATE = BurstValley.STATE;

    private Edges() {
    }

    /** A number is taken at both ends of its range; just outside and far outside it is BAD. */
    static void range(String what, int least, int most, IntUnaryOperator call) {
        for (int v : new int[] {least, most}) {
            Check.isTrue(what + " of " + v + " is taken", call.applyAsInt(v) != BAD);
        }
        for (int v : new int[] {least - 1, most + 1, Integer.MIN_VALUE, Integer.MAX_VALUE}) {
            Check.due(what + " of " + v, call.applyAsInt(v), BAD);
        }
    }

    /** A WAY's TABLE, by SHEET 3. */
    static void table(BurstValley x, int way, int... numbers) {
        ValleyTest.tellTable(x, way, numbers);
    }

    static int read(BurstValley x, String text) {
        return ActTest.read(x, text);
    }

    /** Something of all that can be told, nothing at its most. THE TAPE is empty. */
    static BurstValley some() {
        BurstValley x = new BurstValley();
        x.reach(1, 5, 4);
        x.pond(3000);
        x.gate(7, 20);
        table(x, 0, 300, 200);
        table(x, 1, 150);
        x.house(0, 8, 300);
        x.house(2, 6, 150);
        x.house(2, 99, 0);
        x.clock(0, 5, 12, 309);
        x.mark(2, 0, 200);
        x.word(1, 3, 2, 20);
        x.word(2, 4, 0, 9);
        x.mark(3, 900, 999);
        x.tear(4, true);
        x.side(1, 1);
        x.side(2, 2);
        x.doubt(2, true);
        x.person(1, 0, 2);
        x.person(1, 1, 3);
        x.person(2, 1, 0);
        x.person(3, 0, 1);
        x.safe(3, true);
        x.name(1, -1);
        x.name(2, 1);
        x.name(1, 0);
        x.thing(1, 105, 200);
        x.thing(0, 201, 200);
        x.thing(1, 103, 50);
        x.find(1, 5);
        x.find(2, 3);
        x.days(3);
        read(x, "pay 50 if kin=1; pay 20; rank 3 if fell; bar if proofs>4; late 3;");
        x.claim(0, 0);
        x.claim(1, 0);
        x.claim(2, 1);
        x.claim(2, 2);
        x.proof(0, 2);
        x.proof(0, -1);
        x.proof(1, 2);
        x.fund(500);
        x.offer(1, 60);
        x.keep();
        x.days(2);
        x.fund(7);
        x.round(0b1011, 4);
        x.sheet(0, 0, 3);
        x.put(0, 2, 77);
        x.sheet(1, 2, 0);
        x.shelf(0, 0, 3);
        x.shelf(1, 1, 1);
        x.shelf(2, 2, 0);
        x.deal(0, 1, 5);
        return x;
    }

    /** As much of all as there can be. THE TAPE is empty, DAY is 999, THE FUND has 99999. */
    static BurstValley full() {
        BurstValley x = new BurstValley();
        x.pond(9999);
        table(x, 0, 400);
        for (int i = 0; i < 10; i++) {
            x.house(i, 5 + i, 300);
        }
        for (int i = 0; i < 16; i++) {
            x.word(i % 4, 1, 0, i);
            x.person(i % 8, i % 10, i % 6);
            x.name(i % 8, -1);
        }
        for (int i = 0; i < 12; i++) {
            x.thing(i % 10, 101 + i, 10 + i);
            x.find(1, i);
        }
        for (int i = 0; i < 8; i++) {
            read(x, "pay 9;");
        }
        for (int i = 0; i < 16; i++) {
            x.claim(i, i % 12);
        }
        for (int i = 0; i < 24; i++) {
            x.proof(i % 16, i % 3 == 0 ? -1 : i % 16 == 1 ? 2 : 1);
        }
        for (int i = 0; i < 11; i++) {
            x.days(i == 10 ? 9 : 99);
            x.fund(9999);
        }
        return x;
    }

    /** What an object answers, whatever was told to it; at its end things are told to it. */
    static List<Integer> look(BurstValley x) {
        List<Integer> seen = new ArrayList<>();
        for (int what = 0; what <= 16; what++) {
            seen.add(x.many(what));
        }
        for (int i = 0; i < 6; i++) {
            seen.add(x.trace(i));
            seen.add(x.row(i, 0));
            seen.add(x.row(i, 1));
        }
        seen.add(x.judge());
        lookAtHost(x, seen);
        lookAtNights(x, seen);
        lookAtFolk(x, seen);
        lookAtClaims(x, seen);
        tell(x, seen);
        return seen;
    }

    private static void lookAtHost(BurstValley x, List<Integer> seen) {
        for (int sheet = 0; sheet < 4; sheet++) {
            for (int sort = 0; sort < 5; sort++) {
                seen.add(x.item(sheet, sort, 0));
            }
            seen.add(x.item(sheet, 0, 2));
            for (int as : new int[] {0, 3, 4, 6, 10, 12}) {
                seen.add(x.taken(sheet, as));
            }
        }
    }

    private static void lookAtNights(BurstValley x, List<Integer> seen) {
        for (int way = 0; way < 3; way++) {
            seen.add(x.possible(way));
            seen.add(x.span(way, false));
            seen.add(x.span(way, true));
            seen.add(x.depth(way, 3, 1, 5));
            seen.add(x.depth(way, 3, 2, 24));
            seen.add(x.depth(way, 29, 0, 21));
        }
        for (int row = 0; row < 5; row++) {
            seen.add(x.hangs(row));
            seen.add(x.lets(row, 0, 3));
            seen.add(x.lets(row, 2, 5));
        }
        for (int house = 0; house < 4; house++) {
            seen.add(x.sure(house));
            seen.add(x.falls(0, 3, house));
        }
        seen.add(x.sooner(0, 3, 50, 0));
        seen.add(x.could(0, 3, 1, 0, 110, 0));
        seen.add(x.told(1, 0, 110, 0));
    }

    private static void lookAtFolk(BurstValley x, List<Integer> seen) {
        for (int what = -2; what < 5; what++) {
            seen.add(x.list(what));
        }
        for (int i = 0; i < 4; i++) {
            seen.add(x.lies(i, 0, 3));
            seen.add(x.whose(i));
        }
    }

    static void lookAtClaims(BurstValley x, List<Integer> seen) {
        for (int claim = 0; claim < 5; claim++) {
            for (int what = 0; what < 8; what++) {
                seen.add(x.claimOf(claim, 999, what));
            }
        }
        for (int what = 0; what < 3; what++) {
            seen.add(x.why(0, 3, what));
            seen.add(x.why(2, 2, what));
            seen.add(x.likest(what));
        }
        seen.add(x.odd(0));
        seen.add(x.odd(1));
    }

    /** Each of these calls answers what there was. */
    static void tell(BurstValley x, List<Integer> seen) {
        for (int reach = 0; reach < 12; reach++) {
            seen.add(x.reach(reach, 9, 3));
        }
        for (int engineer = 0; engineer < 4; engineer++) {
            seen.add(x.side(engineer, 0));
        }
        seen.add(x.gate(1, 1));
        seen.add(x.pond(1));
        seen.add(x.read());
        seen.add(x.pay());
        for (int person = 0; person < 4; person++) {
            seen.add(x.safe(person, true));
        }
        seen.add(x.again());
        for (int what = 0; what <= 16; what++) {
            seen.add(x.many(what));
        }
        for (int claim = 0; claim < 3; claim++) {
            seen.add(x.claimOf(claim, 5, 4));
            seen.add(x.claimOf(claim, 5, 6));
        }
    }
}
