import java.util.ArrayList;
import java.util.List;
import java.util.function.ToIntFunction;

/** Calls that the document lets answer, not tell: they answer the same again and change nothing. */
final class AskingTest {
    private static final List<RefusalTest.Refused> all = new ArrayList<>();

    public static void main(String[] args) {
        nights();
        seen();
        folk();
        claims();
        company();
        host();
        RefusalTest.changesNothing(AskingTest::made, all);
        dealChangesTheTraceAlone();
        keepChangesWhatIsKeptAlone();
        Check.finish("AskingTest");
    }

    /** RefusalTest.some(), with two CLAIMS that are paid UNLIKE, and HOUSES that are OVER. */
    private static BurstValley made() {
        BurstValley x = RefusalTest.some();
        x.offer(0, 70);
        x.claim(3, 2);
        return x;
    }

    private static void ask(String what, ToIntFunction<BurstValley> call) {
        int due = call.applyAsInt(made());
        Check.isTrue(what + " isn't refused", due >= 0);
        all.add(new RefusalTest.Refused(what, due, call));
        all.add(new RefusalTest.Refused(what + " twice", due, x -> {
            call.applyAsInt(x);
            return call.applyAsInt(x);
        }));
    }

    private static void nights() {
        for (int way = 0; way < 2; way++) {
            int w = way;
            ask("depth", x -> x.depth(w, 3, 0, 5));
            ask("falls", x -> x.falls(w, 3, 0));
            ask("sooner", x -> x.sooner(w, 3, 90, 0));
            ask("lets", x -> x.lets(1 + w, w, 3));
            ask("could", x -> x.could(w, 9, 1, 0, 110, 0));
            ask("lies", x -> x.lies(1, w, 3));
        }
    }

    private static void seen() {
        ask("possible", x -> x.possible(-1));
        ask("possible of a WAY", x -> x.possible(0));
        ask("span, first", x -> x.span(0, false));
        ask("span, last", x -> x.span(0, true));
        for (int row = 0; row < 5; row++) {
            int r = row;
            ask("hangs", x -> x.hangs(r));
        }
        for (int house = 0; house < 3; house++) {
            int h = house;
            ask("sure", x -> x.sure(h));
        }
        ask("told", x -> x.told(1, 0, 110, 0));
    }

    private static void folk() {
        for (int what = -2; what < 4; what++) {
            int w = what;
            ask("list", x -> x.list(w));
        }
        ask("whose", x -> x.whose(0));
        ask("whose", x -> x.whose(1));
    }

    private static void claims() {
        for (int what = 0; what < 8; what++) {
            int w = what;
            ask("claimOf on a later DAY", x -> x.claimOf(1, 600, w));
            ask("claimOf on the first DAY", x -> x.claimOf(0, 0, w));
        }
        ask("why", x -> x.why(0, 600, 0));
        ask("odd", x -> x.odd(0));
        ask("odd", x -> x.odd(1));
        for (int what = 0; what < 3; what++) {
            int w = what;
            ask("likest", x -> x.likest(w));
        }
    }

    private static void company() {
        ask("row", x -> x.row(1, 0));
        ask("row", x -> x.row(1, 1));
        ask("judge of right rows", x -> x.judge());
        ask("years", x -> x.years(900, 90, 100));
        ask("rate", x -> x.rate(900, 90, 20));
    }

    private static void host() {
        ask("item", x -> x.item(0, 0, 2));
        ask("taken", x -> x.taken(0, 3));
        ask("taken", x -> x.taken(1, 5));
        ask("taken", x -> x.taken(2, 10));
        ask("trace", x -> x.trace(1));
        for (int what = 0; what <= 16; what++) {
            int w = what;
            ask("many", x -> x.many(w));
        }
    }

    /** Many bodies (twice looked at) and each of the first six of them differ, nothing else. */
    private static void dealChangesTheTraceAlone() {
        for (int deal = 0; deal < 4; deal++) {
            BurstValley x = withoutTrace();
            x.deal(0, deal, 8);
            int bodies = x.many(15);
            List<Integer> now = Edges.look(x);
            List<Integer> untouched = Edges.look(withoutTrace());
            int differ = 0;
            for (int i = 0; i < now.size(); i++) {
                differ += now.get(i).equals(untouched.get(i)) ? 0 : 1;
            }
            Check.isTrue("bodies ran", bodies > 0);
            Check.due("DEAL " + deal + " changes THE TRACE alone", differ, 2 + Math.min(6, bodies));
        }
    }

    private static BurstValley withoutTrace() {
        BurstValley x = RefusalTest.withoutThese();
        x.side(1, 1);
        x.round(0b11, 4);
        x.keep();
        return x;
    }

    private static void keepChangesWhatIsKeptAlone() {
        BurstValley untouched = made();
        BurstValley kept = made();
        kept.keep();
        kept.keep();
        for (int what = 0; what <= 16; what++) {
            Check.due("many(" + what + ")", kept.many(what), untouched.many(what));
        }
        for (int i = 0; i < 3; i++) {
            Check.due("row", kept.row(i, 1), untouched.row(i, 1));
            Check.due("trace", kept.trace(i), untouched.trace(i));
            Check.due("taken", kept.taken(i, i == 2 ? 10 : 0), untouched.taken(i, i == 2 ? 10 : 0));
        }
        for (int what = 0; what < 8; what++) {
            Check.due("claimOf", kept.claimOf(0, 999, what), untouched.claimOf(0, 999, what));
        }
        BurstValley never = RefusalTest.withoutThese();
        BurstValley once = RefusalTest.withoutThese();
        once.keep();
        Check.due("claimOf, kept for the first time", once.claimOf(0, 999, 3), never.claimOf(0, 999, 3));
        Check.due("judge", kept.judge(), 0);
        Check.due("item", kept.item(0, 0, 2), 77);
        Check.due("possible", kept.possible(-1), untouched.possible(-1));
        Check.due("read", kept.read(), untouched.read());
    }
}
