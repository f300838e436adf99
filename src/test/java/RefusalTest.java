import java.util.ArrayList;
import java.util.List;
import java.util.function.Function;
import java.util.function.Supplier;
import java.util.function.ToIntFunction;

/** "Terms": what a refusal changes, and which of several is answered. */
final class RefusalTest {
    private static final int BAD = BurstValley.BAD;
    private static final int FULL = BurstValley.FULL;
    private static final int NONE = BurstValley.NONE;
    private static final int STATE = BurstValley.STATE;
    private static final int MIN = Integer.MIN_VALUE;
    private static final int MAX = Integer.MAX_VALUE;

    record Refused(String what, int due, ToIntFunction<BurstValley> call) {
    }

    private final List<Refused> all = new ArrayList<>();

    public static void main(String[] args) {
        theConstants();
        changesNothing(RefusalTest::some, refusedBySome());
        changesNothing(RefusalTest::full, refusedByFull());
        changesNothing(BurstValley::new, refusedByNew());
        changesNothing(RefusalTest::fullTape, refusedByFullTape());
        changesNothing(RefusalTest::wrongTables, refusedByWrongTables());
        changesNothing(RefusalTest::nothingKept, refusedWhereNothingIsKept());
        changesNothing(RefusalTest::noRound, refusedWhereThereWasNoRound());
        changesNothing(RefusalTest::noRowLeft, refusedWhereNoRowIsLeft());
        aFaultUsesUpTheTapeAlone();
        aFullReadUsesUpTheTapeAlone();
        theFirstNamedIsAnswered();
        Check.finish("RefusalTest");
    }

    private void add(String what, int due, ToIntFunction<BurstValley> call) {
        all.add(new Refused(what, due, call));
    }

    private static void theConstants() {
        Check.due("BAD", BurstValley.BAD, -1);
        Check.due("FULL", BurstValley.FULL, -2);
        Check.due("NONE", BurstValley.NONE, -3);
        Check.due("STATE", BurstValley.STATE, -4);
    }

    /**
     * "such a call changes nothing". Edges.look() is refused some of its calls itself, so what is kept and what the
     * host holds is asked of objects of their own, too, with calls that are taken.
     */
    static void changesNothing(Supplier<BurstValley> made, List<Refused> refused) {
        changesNothing(made, refused, Edges::look);
        changesNothing(made, refused, RefusalTest::lookAtWhatIsKept);
        changesNothing(made, refused, RefusalTest::lookAtWhatWasTold);
        changesNothing(made, refused, RefusalTest::lookAtClaims);
        changesNothing(made, refused, RefusalTest::lookAtShelves);
        changesNothing(made, refused, RefusalTest::lookAtSheets);
    }

    private static void changesNothing(Supplier<BurstValley> made, List<Refused> refused,
            Function<BurstValley, List<Integer>> look) {
        List<Integer> untouched = look.apply(made.get());
        for (Refused r : refused) {
            BurstValley x = made.get();
            Check.due(r.what, r.call.applyAsInt(x), r.due);
            List<Integer> now = look.apply(x);
            Check.isTrue(r.what + " changes nothing", now.equals(untouched));
        }
    }

    private static List<Integer> lookAtWhatIsKept(BurstValley x) {
        List<Integer> seen = new ArrayList<>();
        seen.add(x.again());
        for (int what = 0; what <= 16; what++) {
            seen.add(x.many(what));
        }
        return seen;
    }

    private static List<Integer> lookAtWhatWasTold(BurstValley x) {
        List<Integer> seen = new ArrayList<>();
        Edges.tell(x, seen);
        return seen;
    }

    private static List<Integer> lookAtClaims(BurstValley x) {
        List<Integer> seen = new ArrayList<>();
        Edges.lookAtClaims(x, seen);
        return seen;
    }

    private static List<Integer> lookAtShelves(BurstValley x) {
        List<Integer> seen = new ArrayList<>();
        seen.add(x.taken(0, 0));
        seen.add(x.taken(1, 5));
        seen.add(x.taken(2, 10));
        seen.add(x.deal(0, 1, 9));
        seen.add(x.deal(1, 0, 9));
        return seen;
    }

    private static List<Integer> lookAtSheets(BurstValley x) {
        List<Integer> seen = new ArrayList<>();
        seen.add(x.item(0, 0, 2));
        seen.add(x.table(1, 3));
        seen.add(x.depth(1, 0, 0, 0));
        seen.add(x.put(0, 2, 5));
        seen.add(x.item(0, 0, 2));
        return seen;
    }

    private static void putOnTape(BurstValley x, String text) {
        for (int i = 0; i < text.length(); i++) {
            x.feed(text.charAt(i), 1);
        }
    }

    static BurstValley some() {
        BurstValley x = Edges.some();
        putOnTape(x, "pay 7;");
        return x;
    }

    private static void tellHost(BurstValley x) {
        x.sheet(0, 0, 3);
        x.put(0, 2, 77);
        x.shelf(0, 0, 3);
        x.shelf(1, 1, 1);
        x.shelf(2, 2, 0);
    }

    /** Edges.full(), and something of what is not kept; THE TAPE is empty. */
    private static BurstValley fullWithoutTape() {
        BurstValley x = Edges.full();
        x.offer(1, 60);
        x.tear(3, true);
        x.keep();
        x.round(0b1101, 4);
        tellHost(x);
        x.deal(0, 1, 5);
        return x;
    }

    private static BurstValley full() {
        BurstValley x = fullWithoutTape();
        putOnTape(x, "pay 7;");
        return x;
    }

    private static BurstValley fullTape() {
        BurstValley x = Edges.some();
        putOnTape(x, "pay 7;");
        for (int i = 0; i < 29; i++) {
            x.feed(0x2020202020202020L, 8);
        }
        x.feed(0x2020, 2);
        return x;
    }

    /** SHEET 1 is too long for a TABLE, SHEET 2 has nothing, SHEET 3 has what is not as told. */
    private static BurstValley wrongTables() {
        BurstValley x = some();
        x.sheet(1, 1, 9);
        x.sheet(2, 1, 0);
        x.put(3, 0, 1000);
        return x;
    }

    /** Edges.some() has what is kept, a ROUND and a TRACE; this one has none of them. */
    static BurstValley withoutThese() {
        BurstValley x = new BurstValley();
        x.pond(500);
        Edges.table(x, 0, 90);
        x.house(0, 5, 100);
        for (int i = 0; i < 4; i++) {
            x.word(i, 1 + i, 0, 20);
        }
        x.tear(1, true);
        x.person(1, 0, 2);
        x.person(2, 0, 2);
        x.safe(1, true);
        x.thing(0, 101, 90);
        x.thing(0, 305, 40);
        x.fund(400);
        Edges.read(x, "pay 60; late 0;");
        x.claim(0, 0);
        x.claim(0, 1);
        x.offer(1, 60);
        x.days(4);
        tellHost(x);
        putOnTape(x, "pay 7;");
        return x;
    }

    private static BurstValley nothingKept() {
        BurstValley x = withoutThese();
        x.deal(0, 1, 5);
        x.round(0b11, 4);
        return x;
    }

    private static BurstValley noRound() {
        BurstValley x = withoutThese();
        x.deal(0, 1, 5);
        x.keep();
        return x;
    }

    private static BurstValley noRowLeft() {
        BurstValley x = nothingKept();
        x.keep();
        x.dropRow();
        x.dropRow();
        return x;
    }

    private static List<Refused> refusedByFullTape() {
        RefusalTest t = new RefusalTest();
        t.add("feed of 1", FULL, x -> x.feed(' ', 1));
        t.add("feed of 8", FULL, x -> x.feed(0x2020202020202020L, 8));
        t.add("feed of none", BAD, x -> x.feed(' ', 0));
        return t.all;
    }

    private static List<Refused> refusedByWrongTables() {
        RefusalTest t = new RefusalTest();
        for (int sheet = 1; sheet <= 3; sheet++) {
            int number = sheet;
            t.add("table of SHEET " + sheet, STATE, x -> x.table(0, number));
        }
        return t.all;
    }

    private static List<Refused> refusedWhereNothingIsKept() {
        RefusalTest t = new RefusalTest();
        t.add("again", NONE, x -> x.again());
        return t.all;
    }

    private static List<Refused> refusedWhereThereWasNoRound() {
        RefusalTest t = new RefusalTest();
        t.add("judge", NONE, x -> x.judge());
        t.add("dropRow", NONE, x -> x.dropRow());
        t.add("row", -9, x -> x.row(0, 0));
        t.add("alterRow", -9, x -> x.alterRow(0, 0, 1));
        return t.all;
    }

    private static List<Refused> refusedWhereNoRowIsLeft() {
        RefusalTest t = new RefusalTest();
        t.add("dropRow", NONE, x -> x.dropRow());
        t.add("row", -9, x -> x.row(0, 1));
        t.add("alterRow", -9, x -> x.alterRow(0, 1, 1));
        return t.all;
    }

    /** Edges.some() has 3 HOUSES, 5 ROWS, 4 PERSONS, 3 NAMES, 3 THINGS, 2 FINDS, 4 CLAIMS, 3 ROWS of a ROUND. */
    private static List<Refused> refusedBySome() {
        RefusalTest t = new RefusalTest();
        t.valley();
        t.seen();
        t.folk();
        t.act();
        t.company();
        t.host();
        return t.all;
    }

    private void valley() {
        for (int[] w : new int[][] {{-1, 5, 5}, {12, 5, 5}, {1, 0, 5}, {1, 51, 5}, {1, 5, 1}, {1, 5, 10}, {MAX, 5, 5}}) {
            add("reach", BAD, x -> x.reach(w[0], w[1], w[2]));
        }
        for (int v : new int[] {-1, 10000, MIN, MAX}) {
            add("pond", BAD, x -> x.pond(v));
        }
        for (int[] w : new int[][] {{-1, 5}, {100, 5}, {5, -1}, {5, 180}, {MIN, MIN}}) {
            add("gate", BAD, x -> x.gate(w[0], w[1]));
            add("sooner", BAD, x -> x.sooner(0, 3, w[0], w[1]));
        }
        for (int[] w : new int[][] {{-1, 3}, {3, 3}, {0, -1}, {0, 4}}) {
            add("table", BAD, x -> x.table(w[0], w[1]));
        }
        add("table of bytes", -13, x -> x.table(0, 0));
        add("table of ints", -13, x -> x.table(0, 1));
        add("table of nothing", -11, x -> x.table(0, 2));
        for (int[] w : new int[][] {{-1, 5, 5}, {12, 5, 5}, {0, 0, 5}, {0, 100, 5}, {0, 5, -1}, {0, 5, 1000}}) {
            add("house", BAD, x -> x.house(w[0], w[1], w[2]));
        }
        for (int[] w : new int[][] {{-1, 0}, {3, 0}, {0, -1}, {0, 30}, {MIN, 0}, {0, MAX}}) {
            add("depth", BAD, x -> x.depth(w[0], w[1], 0, 0));
            add("falls", BAD, x -> x.falls(w[0], w[1], 0));
            add("sooner", BAD, x -> x.sooner(w[0], w[1], 5, 5));
            add("lets", BAD, x -> x.lets(0, w[0], w[1]));
            add("could", BAD, x -> x.could(w[0], w[1], 0, 0, 100, 0));
            add("lies", BAD, x -> x.lies(0, w[0], w[1]));
        }
        for (int[] w : new int[][] {{-1, 0}, {12, 0}, {0, -1}, {0, 180}}) {
            add("depth", BAD, x -> x.depth(0, 3, w[0], w[1]));
        }
        for (int h : new int[] {-1, 3, MIN, MAX}) {
            add("falls", BAD, x -> x.falls(0, 3, h));
            add("sure", BAD, x -> x.sure(h));
        }
        add("falls", NONE, x -> x.falls(0, 3, 2));
    }

    private void seen() {
        for (int[] w : new int[][] {{-1, 5, 5, 9}, {12, 5, 5, 9}, {0, 0, 5, 9}, {0, 100, 5, 9}, {0, 5, -1, 9},
            {0, 5, 180, 9}, {0, 5, 5, -1}, {0, 5, 5, 19}, {0, 5, 5, 919}, {0, 5, 5, 1000}}) {
            add("clock", BAD, x -> x.clock(w[0], w[1], w[2], w[3]));
        }
        for (int[] w : new int[][] {{-1, 5, 5}, {12, 5, 5}, {0, -1, 5}, {0, 5, 1000}, {0, 5, 4}}) {
            add("mark", BAD, x -> x.mark(w[0], w[1], w[2]));
        }
        for (int[] w : new int[][] {{-1, 1, 0, 0}, {4, 1, 0, 0}, {0, 0, 0, 0}, {0, 8, 0, 0}, {0, 1, -1, 0}, {0, 1, 0, 30},
            {0, 1, 6, 5}}) {
            add("word", BAD, x -> x.word(w[0], w[1], w[2], w[3]));
        }
        for (int row : new int[] {-1, 5, MIN, MAX}) {
            add("tear", BAD, x -> x.tear(row, true));
            add("tear", BAD, x -> x.tear(row, false));
            add("lets", BAD, x -> x.lets(row, 0, 3));
            add("hangs", BAD, x -> x.hangs(row));
        }
        for (int[] w : new int[][] {{-1, 1}, {4, 1}, {1, -1}, {1, 3}}) {
            add("side", BAD, x -> x.side(w[0], w[1]));
        }
        for (int side : new int[] {-1, 3, MIN, MAX}) {
            add("doubt", BAD, x -> x.doubt(side, true));
            add("doubt", BAD, x -> x.doubt(side, false));
        }
        for (int way : new int[] {-2, 3, MIN, MAX}) {
            add("possible", BAD, x -> x.possible(way));
            add("span", BAD, x -> x.span(way, true));
        }
        add("span", BAD, x -> x.span(-1, false));
        add("span", NONE, x -> x.span(2, false));
        for (int[] w : new int[][] {{-1, 0, 100, 0}, {180, 0, 100, 0}, {0, -1, 100, 0}, {0, 12, 100, 0}, {0, 0, 99, 0},
            {0, 0, 1000, 0}, {0, 0, 100, -1}, {0, 0, 100, 31}}) {
            add("could", BAD, x -> x.could(0, 3, w[0], w[1], w[2], w[3]));
            add("told", BAD, x -> x.told(w[0], w[1], w[2], w[3]));
        }
    }

    private void folk() {
        for (int[] w : new int[][] {{-1, 0, 0}, {10, 0, 0}, {0, -1, 0}, {0, 3, 0}, {0, 0, -1}, {0, 0, 6}}) {
            add("person", BAD, x -> x.person(w[0], w[1], w[2]));
        }
        for (int person : new int[] {-1, 4, MIN, MAX}) {
            add("safe", BAD, x -> x.safe(person, true));
            add("safe", BAD, x -> x.safe(person, false));
            add("claim", BAD, x -> x.claim(person, 1));
        }
        for (int[] w : new int[][] {{-1, 0}, {10, 0}, {0, -2}, {0, 3}}) {
            add("name", BAD, x -> x.name(w[0], w[1]));
        }
        for (int what : new int[] {-3, 4, MIN, MAX}) {
            add("list", BAD, x -> x.list(what));
        }
        for (int[] w : new int[][] {{-1, 101, 5}, {3, 101, 5}, {0, 100, 5}, {0, 0, 5}, {0, 801, 5}, {0, -1, 5}, {0, 101, 0},
            {0, 101, 1000}}) {
            add("thing", BAD, x -> x.thing(w[0], w[1], w[2]));
        }
        for (int thing : new int[] {-1, 3, MIN, MAX}) {
            add("lies", BAD, x -> x.lies(thing, 0, 3));
            add("claim", BAD, x -> x.claim(3, thing));
        }
        for (int[] w : new int[][] {{-1, 0}, {8, 0}, {0, -1}, {0, 12}}) {
            add("find", BAD, x -> x.find(w[0], w[1]));
        }
        for (int find : new int[] {-1, 2, MIN, MAX}) {
            add("whose", BAD, x -> x.whose(find));
        }
    }

    private void act() {
        for (int n : new int[] {-1, 0, 100, MIN, MAX}) {
            add("days", BAD, x -> x.days(n));
        }
        for (int n : new int[] {-1, 0, 9, MIN, MAX}) {
            add("feed", BAD, x -> x.feed(0x2020202020202020L, n));
        }
        add("claim", STATE, x -> x.claim(0, 0));
        for (int[] w : new int[][] {{-1, -1}, {4, -1}, {0, -2}, {0, 4}}) {
            add("proof", BAD, x -> x.proof(w[0], w[1]));
        }
        add("proof by the claimant", STATE, x -> x.proof(0, 0));
        add("proof by one of the KIN", STATE, x -> x.proof(0, 1));
        for (int[] w : new int[][] {{-1, 0, 0}, {4, 0, 0}, {0, -1, 0}, {0, 1000, 0}, {0, 0, -1}, {0, 0, 8}}) {
            add("claimOf", BAD, x -> x.claimOf(w[0], w[1], w[2]));
            add("why", BAD, x -> x.why(w[0], w[1], w[2]));
        }
        add("claimOf", NONE, x -> x.claimOf(0, 3, 6));
        add("why", BAD, x -> x.why(0, 3, 3));
        add("why", NONE, x -> x.why(0, 3, 2));
        add("why", NONE, x -> x.why(0, 2, 0));
        for (int what : new int[] {-1, 2, MIN, MAX}) {
            add("odd", BAD, x -> x.odd(what));
        }
        for (int n : new int[] {-1, 0, 10000, MIN, MAX}) {
            add("fund", BAD, x -> x.fund(n));
        }
        for (int[] w : new int[][] {{-1, 5}, {4, 5}, {0, 0}, {0, 1000}}) {
            add("offer", BAD, x -> x.offer(w[0], w[1]));
        }
        add("offer for what is PAID", STATE, x -> x.offer(1, 5));
        add("offer of more than there is", STATE, x -> x.offer(0, 448));
        for (int what : new int[] {-1, 3, MIN, MAX}) {
            add("likest", BAD, x -> x.likest(what));
        }
        add("likest", NONE, x -> x.likest(0));
    }

    private void company() {
        for (int[] w : new int[][] {{16, 4}, {17, 4}, {-1, 4}, {MIN, 4}, {1, -1}, {1, 12}}) {
            add("round", BAD, x -> x.round(w[0], w[1]));
        }
        add("round", NONE, x -> x.round(0, 2));
        for (int[] w : new int[][] {{-1, 0}, {3, 0}, {0, -1}, {0, 2}, {MIN, 0}, {MAX, 1}}) {
            add("row", -9, x -> x.row(w[0], w[1]));
            add("alterRow", -9, x -> x.alterRow(w[0], w[1], 7));
        }
        for (int[] w : new int[][] {{-1, 5}, {100000, 5}, {5, -1}, {5, 10000}}) {
            add("years", BAD, x -> x.years(w[0], w[1], 100));
            add("rate", BAD, x -> x.rate(w[0], w[1], 9));
        }
        for (int v : new int[] {-1, 301}) {
            add("years", BAD, x -> x.years(5, 5, v));
        }
        for (int v : new int[] {0, 61}) {
            add("rate", BAD, x -> x.rate(5, 5, v));
        }
        add("years", NONE, x -> x.years(9, 0, 100));
        add("rate", NONE, x -> x.rate(9, 0, 9));
    }

    private void host() {
        for (int[] w : new int[][] {{-1, 0, 1}, {4, 0, 1}, {0, -2, 1}, {0, 5, 1}, {0, 0, 41}, {0, 0, MAX}}) {
            add("sheet", BAD, x -> x.sheet(w[0], w[1], w[2]));
        }
        add("sheet", -14, x -> x.sheet(0, 0, -1));
        add("sheet", -14, x -> x.sheet(0, 3, MIN));
        for (int[] w : new int[][] {{-1, 0, BAD}, {4, 0, BAD}, {2, 0, -11}, {0, -1, -12}, {0, 3, -12}, {1, 0, -12},
            {0, MIN, -12}, {0, MAX, -12}}) {
            add("put", w[2], x -> x.put(w[0], w[1], 5));
        }
        for (int[] w : new int[][] {{-1, 0, 0, BAD}, {4, 0, 0, BAD}, {0, -1, 0, BAD}, {0, 5, 0, BAD}, {0, 1, 0, -13},
            {2, 0, 0, -11}, {0, 0, -1, -12}, {0, 0, 3, -12}, {1, 2, 0, -12}}) {
            add("item", w[3], x -> x.item(w[0], w[1], w[2]));
        }
        for (int[] w : new int[][] {{-1, 3, 0}, {4, 3, 0}, {0, -1, 0}, {0, 4, 0}, {0, 0, -1}, {0, 0, 5}, {0, 1, -1},
            {0, 1, 4}, {0, 2, -1}, {0, 2, 4}}) {
            add("shelf", BAD, x -> x.shelf(w[0], w[1], w[2]));
        }
        for (int[] w : new int[][] {{-1, 0, BAD}, {4, 0, BAD}, {0, -1, BAD}, {0, 7, BAD}, {0, 9, BAD}, {0, 15, BAD},
            {0, 1, -13}, {0, 10, -13}, {2, 0, -13}, {2, 11, -13}, {3, 0, -11}, {3, 10, -11}}) {
            add("taken", w[2], x -> x.taken(w[0], w[1]));
        }
        for (int i : new int[] {-1, 30, MIN, MAX}) {
            add("trace", NONE, x -> x.trace(i));
        }
        for (int what : new int[] {-1, 17, MIN, MAX}) {
            add("many", BAD, x -> x.many(what));
        }
    }

    private static List<Refused> refusedByFull() {
        RefusalTest t = new RefusalTest();
        t.add("house", FULL, x -> x.house(0, 5, 5));
        t.add("clock", FULL, x -> x.clock(0, 5, 5, 9));
        t.add("mark", FULL, x -> x.mark(0, 5, 5));
        t.add("word", FULL, x -> x.word(0, 1, 5, 5));
        t.add("person", FULL, x -> x.person(0, 0, 0));
        t.add("name", FULL, x -> x.name(0, -1));
        t.add("thing", FULL, x -> x.thing(0, 101, 5));
        t.add("find", FULL, x -> x.find(0, 0));
        t.add("days", STATE, x -> x.days(1));
        t.add("claim", FULL, x -> x.claim(0, 1));
        t.add("proof", FULL, x -> x.proof(0, -1));
        t.add("round", FULL, x -> x.round(0b11111111, 0));
        t.add("round", FULL, x -> x.round(0xFFFF, 0));
        t.add("offer", STATE, x -> x.offer(1, 5));
        return t.all;
    }

    private static List<Refused> refusedByNew() {
        RefusalTest t = new RefusalTest();
        t.add("again", NONE, x -> x.again());
        t.add("dropRow", NONE, x -> x.dropRow());
        t.add("judge", NONE, x -> x.judge());
        t.add("round", NONE, x -> x.round(0, 0));
        t.add("round", BAD, x -> x.round(1, 0));
        t.add("tear", BAD, x -> x.tear(0, true));
        t.add("safe", BAD, x -> x.safe(0, true));
        t.add("person", BAD, x -> x.person(0, 0, 0));
        t.add("name", BAD, x -> x.name(0, 0));
        t.add("thing", BAD, x -> x.thing(0, 101, 1));
        t.add("claim", BAD, x -> x.claim(0, 0));
        t.add("proof", BAD, x -> x.proof(0, -1));
        t.add("offer", BAD, x -> x.offer(0, 1));
        t.add("table", -11, x -> x.table(0, 0));
        t.add("put", -11, x -> x.put(0, 0, 1));
        t.add("shelf", BAD, x -> x.shelf(0, 0, 0));
        t.add("shelf", BAD, x -> x.shelf(0, 1, 0));
        return t.all;
    }

    /** "such a call changes nothing (but that THE TAPE is used up)" */
    private static void aFaultUsesUpTheTapeAlone() {
        RefusalTest t = new RefusalTest();
        t.add("an end", -103, x -> Edges.read(x, "pay"));
        t.add("a NUMBER not as told", -144, x -> Edges.read(x, "bar if kin=1; pay 77 if kin=9; rank 1; rank 10;"));
        t.add("a sign", -106, x -> Edges.read(x, "pay 1;;"));
        changesNothing(Edges::some, t.all);
    }

    private static void aFullReadUsesUpTheTapeAlone() {
        changesNothing(RefusalTest::fullWithoutTape, refusedReads());
    }

    private static List<Refused> refusedReads() {
        RefusalTest t = new RefusalTest();
        t.add("the ninth VERSION", FULL, x -> Edges.read(x, "pay 50; bar if kin=1;"));
        t.add("the ninth VERSION with a FAULT", -112, x -> Edges.read(x, "pay 50; bar kin=1;"));
        return t.all;
    }

    /** "of several the first named" */
    private static void theFirstNamedIsAnswered() {
        BurstValley x = Edges.full();
        Check.due("house: BAD, FULL", x.house(0, 0, 0), BAD);
        Check.due("clock: BAD, FULL", x.clock(0, 1, 0, 19), BAD);
        Check.due("mark: BAD, FULL", x.mark(0, 5, 4), BAD);
        Check.due("word: BAD, FULL", x.word(0, 1, 5, 4), BAD);
        Check.due("person: BAD, FULL", x.person(0, 10, 0), BAD);
        Check.due("name: BAD, FULL", x.name(10, -1), BAD);
        Check.due("thing: BAD, FULL", x.thing(0, 100, 1), BAD);
        Check.due("find: BAD, FULL", x.find(0, 12), BAD);
        Check.due("days: BAD, STATE", x.days(100), BAD);
        Check.due("claim: BAD, FULL", x.claim(16, 0), BAD);
        Check.due("claim: STATE, FULL", x.claim(0, 0), STATE);
        Check.due("proof: BAD, FULL", x.proof(16, -1), BAD);
        Check.due("proof: BAD, STATE", x.proof(0, 16), BAD);
        Check.due("proof: STATE, FULL", x.proof(0, 8), STATE);
        Check.due("round: BAD, FULL", x.round(0x1FFFF, 0), BAD);
        Check.due("round: BAD, FULL", x.round(0xFFFF, 12), BAD);
        Check.due("round: BAD, NONE", x.round(0, 12), BAD);
        x.offer(0, 5);
        Check.due("offer: BAD, STATE", x.offer(0, 1000), BAD);
        Check.due("why: BAD, NONE", x.why(0, 0, 3), BAD);
        Check.due("likest: BAD, NONE", x.likest(3), BAD);
        hostsRefusals();
        othersOfANewObject();
    }

    private static void hostsRefusals() {
        BurstValley x = new BurstValley();
        x.sheet(0, 2, 9);
        x.sheet(1, 1, 0);
        x.shelf(0, 2, 0);
        Check.due("table: BAD, -13", x.table(3, 0), BAD);
        Check.due("table: BAD, -11", x.table(-1, 2), BAD);
        Check.due("table: BAD, STATE", x.table(3, 1), BAD);
        Check.due("table: -13, STATE", x.table(0, 0), -13);
        Check.due("sheet: BAD, -14", x.sheet(4, 0, -1), BAD);
        Check.due("sheet: BAD, -14", x.sheet(0, 5, -1), BAD);
        Check.due("put: BAD, -11", x.put(4, 0, 0), BAD);
        Check.due("put: -11, -12", x.put(2, -1, 0), -11);
        Check.due("item: BAD, -13", x.item(0, 5, 0), BAD);
        Check.due("item: BAD, -11", x.item(2, -1, 0), BAD);
        Check.due("item: BAD, -12", x.item(4, 2, 9), BAD);
        Check.due("item: -13, -12", x.item(0, 1, 9), -13);
        Check.due("item: -11, -12", x.item(2, 1, -1), -11);
        Check.due("taken: BAD, -13", x.taken(0, 15), BAD);
        Check.due("taken: BAD, -11", x.taken(1, 7), BAD);
        Check.due("taken: BAD, -11", x.taken(4, 0), BAD);
    }

    private static void othersOfANewObject() {
        BurstValley x = new BurstValley();
        x.house(0, 9, 0);
        Check.due("falls: BAD, NONE", x.falls(0, 30, 0), BAD);
        x.word(0, 1, 0, 0);
        Check.due("span: BAD, NONE", x.span(3, true), BAD);
        for (int i = 0; i < 30; i++) {
            x.feed(0, 8);
        }
        Check.due("feed: BAD, FULL", x.feed(0, 9), BAD);
        Check.due("feed: FULL", x.feed(0, 1), FULL);
        Check.due("years: BAD, NONE", x.years(5, 0, 301), BAD);
        Check.due("rate: BAD, NONE", x.rate(5, 0, 61), BAD);
    }
}
