/** Boundary cases of promises 23 to 30, sentence by sentence. */
final class EdgesFolkTest {
    private static final int BAD = BurstValley.BAD;
    private static final int FULL = BurstValley.FULL;

    public static void main(String[] args) {
        rangesOfFolk();
        rangesOfThings();
        allAtTheirMost();
        nameFitsItsKin();
        nameFitsItsHouse();
        nobodyWhoIsSafeFits();
        safeIsNewOrNot();
        tooManyFromNoneToAll();
        tooManyByTheBestChoice();
        neverOfFirstAndLast();
        surelyOfFirstAndLast();
        surelyWithoutThem();
        thingOfSortAndWeight();
        thingLiesInItsHouse();
        thingGoesFromTheNextMinuteOn();
        thingGoesByItsWeight();
        thingLiesForGood();
        thingGoesOutOfTheValley();
        thingAtTheEndOfTheNight();
        thingOfAnotherNight();
        whoseOfSortAndReach();
        whoseWhereTheHouseFalls();
        whoseInSomePossibleNight();
        whoseOfAllThings();
        Check.finish("EdgesFolkTest");
    }

    private static void rangesOfFolk() {
        Edges.range("KIN", 0, 9, v -> houses(2).person(v, 1, 3));
        Edges.range("HOUSE", 0, 1, v -> houses(2).person(5, v, 3));
        Edges.range("TRADE", 0, 5, v -> houses(2).person(5, 1, v));
        Edges.range("PERSON", 0, 1, v -> persons(1, 1).safe(v, true));
        Edges.range("PERSON", 0, 1, v -> persons(1, 1).safe(v, false));
        Edges.range("KIN of a NAME", 0, 9, v -> houses(2).name(v, 1));
        Edges.range("HOUSE of a NAME", -1, 1, v -> houses(2).name(5, v));
        Edges.range("HOUSE of a NAME", -1, 9, v -> houses(10).name(5, v));
        Edges.range("NAME without HOUSES", -1, -1, v -> new BurstValley().name(5, v));
        Edges.range("what of the list", -2, 1, v -> persons(1, 1).list(v));
        Edges.range("what of a list without PERSONS", -2, -1, v -> new BurstValley().list(v));
    }

    private static void rangesOfThings() {
        Edges.range("HOUSE", 0, 1, v -> houses(2).thing(v, 505, 5));
        Edges.range("WEIGHT of SORT 0", 1, 99, v -> houses(2).thing(1, v == 100 ? 800 : v, 5));
        Edges.range("WORTH", 1, 999, v -> houses(2).thing(1, 505, v));
        Edges.range("THING", 0, 1, v -> things(2).lies(v, 1, 5));
        Edges.range("WAY", 0, 2, v -> things(2).lies(1, v, 5));
        Edges.range("START", 0, 29, v -> things(2).lies(1, 1, v));
        Edges.range("SORT of a FIND", 0, 7, v -> new BurstValley().find(v, 5));
        Edges.range("REACH of a FIND", 0, 11, v -> new BurstValley().find(5, v));
        Edges.range("FIND", 0, 1, v -> finds(2).whose(v));
    }

    private static BurstValley houses(int n) {
        BurstValley x = new BurstValley();
        for (int i = 0; i < n; i++) {
            x.house(i, 99, 0);
        }
        return x;
    }

    /** PERSONS of these KINS, all in HOUSE 0 of two. */
    private static BurstValley persons(int... kins) {
        BurstValley x = houses(2);
        for (int kin : kins) {
            x.person(kin, 0, 0);
        }
        return x;
    }

    private static BurstValley things(int n) {
        BurstValley x = houses(2);
        for (int i = 0; i < n; i++) {
            x.thing(i % 2, 101, 1);
        }
        return x;
    }

    private static BurstValley finds(int n) {
        BurstValley x = new BurstValley();
        for (int i = 0; i < n; i++) {
            x.find(i, i);
        }
        return x;
    }

    /** "PERSONS, 16 at most", "NAMES of the list, 16 at most", "THINGS, 12 at most", "FINDS, 12 at most" */
    private static void allAtTheirMost() {
        BurstValley x = houses(10);
        for (int i = 0; i < 16; i++) {
            Check.due("person", x.person(i % 10, i % 10, i % 6), i);
            Check.due("name", x.name(i % 10, i % 11 - 1), i);
        }
        for (int i = 0; i < 12; i++) {
            Check.due("thing", x.thing(i % 10, 100 * (i % 8) + 1 + i, 1 + i), i);
            Check.due("find", x.find(i % 8, i), i);
        }
        for (int i = 0; i < 2; i++) {
            Check.due("the 17th PERSON", x.person(0, 0, 0), FULL);
            Check.due("the 17th NAME", x.name(0, -1), FULL);
            Check.due("the 13th THING", x.thing(0, 1, 1), FULL);
            Check.due("the 13th FIND", x.find(0, 0), FULL);
        }
        Check.due("PERSONS", x.many(4), 16);
        Check.due("NAMES", x.many(5), 16);
        Check.due("THINGS", x.many(6), 12);
        Check.due("FINDS", x.many(7), 12);
        Check.due("PERSON 15", x.safe(15, true), 1);
        Check.due("no PERSON 16", x.safe(16, true), BAD);
        Check.due("no THING 12", x.lies(12, 0, 0), BAD);
        Check.due("no FIND 12", x.whose(12), BAD);
    }

    /** "A NAME FITS a PERSON of its KIN" */
    private static void nameFitsItsKin() {
        for (int kin = 0; kin <= 9; kin++) {
            BurstValley x = persons(0, 9, 4);
            x.name(kin, -1);
            boolean fits = kin == 0 || kin == 9 || kin == 4;
            Check.due("TOO MANY of KIN " + kin, x.list(-1), fits ? 0 : 1);
            Check.due("NEVER of KIN " + kin, x.list(-2), fits ? 0 : 1);
        }
    }

    /** "(and HOUSE, if told)" */
    private static void nameFitsItsHouse() {
        for (int house = -1; house < 10; house++) {
            BurstValley x = houses(10);
            x.person(3, 0, 0);
            x.person(3, 9, 0);
            x.name(3, house);
            Check.due("NEVER of HOUSE " + house, x.list(-2), house > 0 && house < 9 ? 1 : 0);
            Check.due("SURELY 0", x.list(0), house == 0 ? 1 : 0);
            Check.due("SURELY 1", x.list(1), house == 9 ? 1 : 0);
        }
    }

    /** "who isn't SAFE (told; not, at first)" */
    private static void nobodyWhoIsSafeFits() {
        BurstValley x = persons(1);
        x.name(1, 0);
        Check.due("not SAFE at first", x.list(-2), 0);
        Check.due("SURELY", x.list(0), 1);
        x.safe(0, true);
        Check.due("SAFE", x.list(-2), 1);
        Check.due("TOO MANY", x.list(-1), 1);
        Check.due("not SURELY", x.list(0), 0);
        x.safe(0, false);
        Check.due("not SAFE", x.list(-2), 0);
        Check.due("SURELY", x.list(0), 1);
    }

    /** "A PERSON is SAFE, or not: 1 if it is new, else 0." */
    private static void safeIsNewOrNot() {
        BurstValley x = persons(1, 2, 3);
        boolean[] told = {false, true, true, false, false, true};
        int[] due = {0, 1, 0, 1, 0, 1};
        for (int person = 0; person < 3; person++) {
            for (int i = 0; i < told.length; i++) {
                Check.due("safe " + told[i], x.safe(person, told[i]), due[i]);
            }
        }
    }

    /** "how many NAMES there are at least beyond those that can each stand for a PERSON of its own" */
    private static void tooManyFromNoneToAll() {
        BurstValley x = persons(7);
        Check.due("no NAMES", x.list(-1), 0);
        for (int i = 1; i <= 16; i++) {
            x.name(7, i % 2 == 0 ? 0 : -1);
            Check.due(i + " NAMES for one", x.list(-1), i - 1);
            Check.due("but each fits", x.list(-2), 0);
        }
        for (int i = 1; i < 16; i++) {
            x.person(7, 0, 0);
            Check.due("one for each more", x.list(-1), 15 - i);
        }
        Check.due("all can stand", x.list(-1), 0);
        Check.due("each SURELY", x.list(0) + x.list(8) + x.list(15), 3);
        x.safe(15, true);
        Check.due("one TOO MANY", x.list(-1), 1);
        BurstValley y = houses(1);
        for (int i = 0; i < 16; i++) {
            y.name(i % 10, -1);
        }
        Check.due("for nobody at all", y.list(-1), 16);
        Check.due("NEVER", y.list(-2), 16);
    }

    private static void tooManyByTheBestChoice() {
        int[][] orders = {{-1, 0, 1}, {0, -1, 1}, {1, 0, -1}, {-1, 1, 0}};
        for (int[] order : orders) {
            BurstValley x = houses(2);
            x.person(1, 1, 0);
            x.person(1, 0, 0);
            x.person(1, 0, 0);
            for (int house : order) {
                x.name(1, house);
            }
            Check.due("each stands", x.list(-1), 0);
            Check.due("each SURELY", x.list(0) + x.list(1) + x.list(2), 3);
            x.name(1, 1);
            Check.due("two for HOUSE 1", x.list(-1), 1);
            x.person(2, 1, 0);
            Check.due("another KIN helps nothing", x.list(-1), 1);
            x.person(1, 1, 0);
            Check.due("one of the KIN does", x.list(-1), 0);
        }
    }

    /** "NEVER is a NAME that fits nobody." */
    private static void neverOfFirstAndLast() {
        BurstValley x = persons(1, 2);
        x.name(1, -1);
        Check.due("fits PERSON 0 alone", x.list(-2), 0);
        x.name(2, 0);
        Check.due("fits PERSON 1 alone", x.list(-2), 0);
        x.name(1, -1);
        Check.due("fits one who is taken", x.list(-2), 0);
        x.name(2, 1);
        Check.due("the last NAME", x.list(-2), 1);
        x.safe(0, true);
        Check.due("the first one, too", x.list(-2), 3);
    }

    /** "1 if PERSON what is SURELY on it, else 0" */
    private static void surelyOfFirstAndLast() {
        BurstValley x = houses(2);
        for (int i = 0; i < 16; i++) {
            x.person(i == 0 ? 1 : i == 15 ? 2 : 3, 0, 0);
        }
        Check.due("no NAMES", x.list(0) + x.list(15), 0);
        x.name(1, -1);
        x.name(2, -1);
        x.name(3, -1);
        Check.due("the first", x.list(0), 1);
        Check.due("the last", x.list(15), 1);
        Check.due("one of many", x.list(1) + x.list(14), 0);
        Check.due("no such PERSON", x.list(16), BAD);
    }

    /** "if there are not as many NAMES that stand each for a PERSON of its own without them" */
    private static void surelyWithoutThem() {
        BurstValley x = persons(1, 1, 1);
        x.name(1, -1);
        x.name(1, -1);
        Check.due("two of three", x.list(0) + x.list(1) + x.list(2), 0);
        x.safe(1, true);
        Check.due("two of two", x.list(0) + x.list(2), 2);
        Check.due("SAFE", x.list(1), 0);
        x.name(1, -1);
        Check.due("TOO MANY, SURELY all the same", x.list(0) + x.list(2), 2);
        x.safe(1, false);
        Check.due("three of three", x.list(0) + x.list(1) + x.list(2), 3);
    }

    /** "kind: 100 times SORT, and WEIGHT", "SORT (0 to 7), a WEIGHT (1 to 99)" */
    private static void thingOfSortAndWeight() {
        for (int sort = 0; sort <= 8; sort++) {
            Check.due("WEIGHT 0", houses(1).thing(0, 100 * sort, 1), BAD);
            Check.due("WEIGHT 1", houses(1).thing(0, 100 * sort + 1, 1), sort < 8 ? 0 : BAD);
            Check.due("WEIGHT 99", houses(1).thing(0, 100 * sort + 99, 1), sort < 8 ? 0 : BAD);
        }
        for (int kind : new int[] {-1, -99, -101, -799, Integer.MIN_VALUE + 1, Integer.MAX_VALUE}) {
            Check.due("kind " + kind, houses(1).thing(0, kind, 1), BAD);
        }
    }

    /**
     * In each START of WAY 0 50 go down; HOUSE 1 of two falls then, and ROUGH of REACH 0 is 3.
     * REACH 0: 50, 34, 23; REACH 1: 0, 16, 19, 17; REACH 2: 0, 0, 8, 13; REACH 3: 0, 0, 0, 4, 8.
     */
    private static BurstValley burst() {
        BurstValley x = new BurstValley();
        for (int r = 0; r < 12; r++) {
            x.reach(r, 1, 2);
        }
        x.pond(50);
        Edges.table(x, 0, 50);
        x.house(0, 99, 0);
        x.house(0, 50, 0);
        return x;
    }

    /** "a THING lies in its HOUSE, if that doesn't fall", "and 100 more if its HOUSE stands" */
    private static void thingLiesInItsHouse() {
        for (int part = 0; part < 2; part++) {
            BurstValley x = new BurstValley();
            for (int i = 0; i < 6; i++) {
                x.house(6 * part + i, 99, 0);
                x.thing(i, 101, 1);
                Check.due("in REACH " + (6 * part + i), x.lies(i, 0, 0), 100 + 6 * part + i);
                Check.due("at any START", x.lies(i, 2, 29), 100 + 6 * part + i);
            }
        }
        BurstValley y = burst();
        y.thing(0, 101, 1);
        y.thing(1, 101, 1);
        Check.due("under water, but it stands", y.lies(0, 0, 3), 100);
        Check.due("another HOUSE falls", y.lies(1, 0, 3) < 100 ? 1 : 0, 1);
        Check.due("in another NIGHT it stands", y.lies(1, 1, 3), 100);
    }

    /** "from the MINUTE behind that in which it falls on it goes each MINUTE one REACH on" */
    private static void thingGoesFromTheNextMinuteOn() {
        BurstValley x = burst();
        x.thing(1, 150, 1);
        x.thing(1, 135, 1);
        x.thing(1, 134, 1);
        for (int start : new int[] {0, 13, 29}) {
            Check.due("50 in the MINUTE itself alone", x.lies(0, 0, start), 0);
            Check.due("34 in the next one", x.lies(1, 0, start), 0);
            Check.due("34 in the next one", x.lies(2, 0, start), 1);
        }
    }

    /** "as long as DEPTH in the REACH where it is, in that MINUTE, is its WEIGHT or more" */
    private static void thingGoesByItsWeight() {
        int[][] cases = {{34, 1}, {35, 0}, {20, 1}, {19, 2}, {14, 2}, {13, 3}, {9, 3}, {8, 4}, {99, 0}};
        for (int[] c : cases) {
            BurstValley x = burst();
            Check.due("thing", x.thing(1, 700 + c[0], 1), 0);
            Check.due("WEIGHT " + c[0], x.lies(0, 0, 0), c[1]);
            Check.due("WEIGHT " + c[0], x.lies(0, 0, 29), c[1]);
        }
        BurstValley y = burst();
        y.reach(1, 2, 2);
        y.thing(1, 109, 1);
        y.thing(1, 110, 1);
        Check.due("DEPTH, not water: 19 by 2 is 9", y.lies(0, 0, 0), 3);
        Check.due("and not 10", y.lies(1, 0, 0), 1);
    }

    /** "where DEPTH is less for the first time, it lies for good" */
    private static void thingLiesForGood() {
        BurstValley x = burst();
        x.pond(9999);
        Edges.table(x, 0, 50, 0, 0, 999);
        x.thing(1, 135, 1);
        x.thing(1, 120, 1);
        Check.due("later there is more", x.depth(0, 0, 0, 3), 16 + 999);
        Check.due("it lies where it lay", x.lies(0, 0, 0), 0);
        Check.due("and so does that in REACH 1", x.lies(1, 0, 0), 1);
        BurstValley y = burst();
        y.pond(9999);
        Edges.table(y, 0, 50, 1, 999);
        y.thing(1, 136, 1);
        y.thing(1, 135, 1);
        // REACH 0: 50, 35, 1023; REACH 1: 0, 16, 19, 350.
        Check.due("lay already", y.lies(0, 0, 0), 0);
        Check.due("just not", y.lies(1, 0, 0), 1);
    }

    /** "(12: out of the valley)" */
    private static void thingGoesOutOfTheValley() {
        for (int reach = 0; reach < 12; reach++) {
            BurstValley x = new BurstValley();
            for (int r = 0; r < 12; r++) {
                x.reach(r, 1, 2);
            }
            x.pond(9999);
            Edges.table(x, 0, 999);
            x.house(11, 99, 0);
            x.house(reach, 60, 0);
            x.thing(1, 101, 1);
            x.find(1, 11);
            Check.due("from REACH " + reach, x.lies(0, 0, 0), 12);
            x.word(0, 1, 0, 0);
            Check.due("not found in the last one", x.whose(0), 0);
        }
        BurstValley y = new BurstValley();
        for (int r = 0; r < 12; r++) {
            y.reach(r, 1, 2);
        }
        y.pond(9999);
        Edges.table(y, 0, 999);
        y.house(11, 1, 0);
        y.thing(0, 199, 1);
        y.thing(0, 101, 1);
        Check.due("too heavy", y.lies(0, 0, 0), 11);
        Check.due("light", y.lies(1, 0, 0), 12);
    }

    /** "(Behind MINUTE 179 a THING lies where it is.)" */
    private static void thingAtTheEndOfTheNight() {
        int[][] cases = {{179, 0}, {178, 1}, {177, 2}, {176, 3}, {170, 9}};
        for (int[] c : cases) {
            BurstValley x = new BurstValley();
            for (int r = 0; r < 12; r++) {
                x.reach(r, 1, 2);
            }
            x.pond(9999);
            x.gate(99, c[0]);
            x.house(11, 99, 0);
            x.house(0, 99, 0);
            x.thing(1, 101, 1);
            x.thing(1, 599, 1);
            Check.due("falls", x.falls(1, 0, 1), c[0]);
            Check.due("as far as the MINUTES go", x.lies(0, 1, 0), c[1]);
            Check.due("99 come again in each MINUTE", x.lies(1, 1, 0), c[0] == 179 ? 0 : 1);
        }
    }

    /** A NIGHT in which a THING still goes on in MINUTE 179 tells nothing of the next one. */
    private static void thingOfAnotherNight() {
        BurstValley x = new BurstValley();
        for (int r = 0; r < 12; r++) {
            x.reach(r, 1, 2);
        }
        x.pond(9999);
        x.house(0, 99, 0);
        x.thing(0, 101, 1);
        x.gate(99, 178);
        Check.due("goes on in MINUTE 179", x.lies(0, 1, 0), 1);
        x.gate(40, 0);
        Check.due("40, 60, 70, .., never 99", x.falls(1, 0, 0), BurstValley.NONE);
        x.gate(99, 178);
        Check.due("goes on in MINUTE 179", x.lies(0, 1, 0), 1);
        x.gate(40, 0);
        Check.due("its HOUSE stands", x.lies(0, 1, 0), 100);
        Check.due("its HOUSE stands", x.lies(0, 1, 1), 100);
    }

    private static void whoseOfSortAndReach() {
        BurstValley x = burst();
        for (int sort = 0; sort <= 7; sort++) {
            x.thing(1, 100 * sort + 34, 1);
            x.find(sort, 1);
        }
        x.find(0, 0);
        x.find(7, 2);
        for (int sort = 0; sort <= 7; sort++) {
            Check.due("SORT " + sort, x.whose(sort), 1 << sort);
        }
        Check.due("a REACH ahead", x.whose(8), 0);
        Check.due("a REACH behind", x.whose(9), 0);
    }

    /** "that lie there in some POSSIBLE NIGHT in which their HOUSE falls" */
    private static void whoseWhereTheHouseFalls() {
        BurstValley x = burst();
        x.thing(0, 101, 1);
        x.thing(1, 150, 1);
        x.find(1, 0);
        Check.due("what stands there is none", x.whose(0), 0b10);
        x.word(0, 2, 0, 29);
        Check.due("it falls in no POSSIBLE NIGHT", x.whose(0), 0);
        x.tear(0, true);
        Check.due("it falls in some", x.whose(0), 0b10);
    }

    private static void whoseInSomePossibleNight() {
        BurstValley x = burst();
        x.pond(150);
        Edges.table(x, 0, 50, 0);
        Edges.table(x, 2, 150);
        x.thing(1, 134, 1);
        int far = x.lies(0, 2, 0);
        Check.isTrue("farther in WAY 2", far > 1 && far < 12);
        x.find(1, 1);
        x.find(1, far);
        Check.due("in all NIGHTS", x.whose(0), 1);
        Check.due("in all NIGHTS", x.whose(1), 1);
        x.word(0, 5, 0, 0);
        Check.due("in the first", x.whose(0), 1);
        Check.due("in the last", x.whose(1), 1);
        x.word(0, 1, 0, 29);
        Check.due("in the only one", x.whose(0), 1);
        Check.due("in none", x.whose(1), 0);
        x.word(0, 4, 0, 29);
        Check.due("none is POSSIBLE", x.whose(0) + x.whose(1), 0);
        x.tear(0, true);
        x.tear(1, true);
        x.word(0, 4, 29, 29);
        Check.due("in none", x.whose(0), 0);
        Check.due("in the last NIGHT of all", x.whose(1), 1);
    }

    private static void whoseOfAllThings() {
        BurstValley x = burst();
        for (int i = 0; i < 12; i++) {
            x.thing(1, 134, 1);
        }
        x.find(1, 1);
        Check.due("all twelve", x.whose(0), 0xFFF);
        BurstValley y = burst();
        for (int i = 2; i < 10; i++) {
            y.house(i, 99, 0);
        }
        y.thing(9, 134, 1);
        y.thing(1, 134, 1);
        y.find(1, 1);
        y.find(1, 9);
        Check.due("of the HOUSE that falls", y.whose(0), 0b10);
        Check.due("of no other", y.whose(1), 0);
        Check.due("HOUSE 9 stands", y.lies(0, 0, 0), 109);
    }
}
