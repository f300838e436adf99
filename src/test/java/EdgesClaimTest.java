/** Boundary cases of promises 34 to 42: CLAIMS, PROOFS, what THE ACT says of them, THE FUND. */
final class EdgesClaimTest {
    private static final int BAD = BurstValley.BAD;
    private static final int FULL = BurstValley.FULL;
    private static final int NONE = BurstValley.NONE;
    private static final int STATE = BurstValley.STATE;

    public static void main(String[] args) {
        ranges();
        sixteenClaims();
        eachPersonOnce();
        twentyFourProofs();
        proofsThatCount();
        proofsOfAnotherKin();
        madeToday();
        lateOfItsDay();
        latestLateAndProof();
        proofsBelow();
        barredByAnyBar();
        owedIsCut();
        owedByTheFirstPay();
        rankByTheFirstRank();
        signsAtTheirEdges();
        factsAreThoseOfTheirOwn();
        andBeforeOr();
        fellInEachPossibleNight();
        foundByAnyFind();
        factsOfTheFirstCall();
        whyOfFirstAndLastLine();
        overIsMoreThanRoom();
        twiceIsTwoOrMore();
        fundAtItsMost();
        payOfWhatIsThere();
        payByRanksAndNumbers();
        payOnce();
        payByTheActOfToday();
        offerOfWhatIsThere();
        barredIsOwedNothing();
        unlikeOnlyIf();
        likestOfSeveral();
        likestCountsEachOfSix();
        Check.finish("EdgesClaimTest");
    }

    /** HOUSES in REACHES 4 and 6; PERSONS 0 to 3 of KIN 1, 2, 3, 1 and TRADE 1 to 4; THINGS worth 200, 200, 50. */
    private static BurstValley town() {
        BurstValley x = new BurstValley();
        x.house(4, 5, 300);
        x.house(6, 5, 199);
        x.person(1, 0, 1);
        x.person(2, 1, 2);
        x.person(3, 1, 3);
        x.person(1, 1, 4);
        x.thing(0, 205, 200);
        x.thing(1, 205, 200);
        x.thing(0, 305, 50);
        return x;
    }

    private static BurstValley twoClaims() {
        BurstValley x = town();
        x.claim(0, 0);
        x.claim(1, 1);
        x.fund(9999);
        return x;
    }

    /** One CLAIM for a THING of this WORTH. */
    private static BurstValley ofWorth(int worth) {
        BurstValley x = new BurstValley();
        x.house(0, 5, 0);
        x.person(1, 0, 1);
        x.thing(0, 101, worth);
        x.claim(0, 0);
        return x;
    }

    private static void ranges() {
        Edges.range("PERSON", 0, 3, v -> town().claim(v, 1));
        Edges.range("THING", 0, 2, v -> town().claim(1, v));
        Edges.range("CLAIM", 0, 1, v -> twoClaims().proof(v, -1));
        Edges.range("by", -1, 2, v -> by(v));
        Edges.range("CLAIM", 0, 1, v -> twoClaims().claimOf(v, 5, 5));
        Edges.range("DAY", 0, 999, v -> twoClaims().claimOf(1, v, 5));
        Edges.range("what", 0, 7, v -> twoClaims().claimOf(1, 5, v));
        Edges.range("CLAIM", 0, 1, v -> twoClaims().why(v, 5, 1));
        Edges.range("DAY", 0, 999, v -> twoClaims().why(1, v, 1));
        Edges.range("what", 0, 2, v -> twoClaims().why(1, 5, v));
        Edges.range("what", 0, 1, v -> new BurstValley().odd(v));
        Edges.range("to THE FUND", 1, 9999, v -> new BurstValley().fund(v));
        Edges.range("CLAIM", 0, 1, v -> twoClaims().offer(v, 5));
        Edges.range("an OFFER", 1, 999, v -> twoClaims().offer(1, v));
        Edges.range("what", 0, 2, v -> new BurstValley().likest(v));
    }

    /** PERSONS 0 to 2 alone, of KINS of their own; the CLAIM is of KIN 9. */
    private static int by(int v) {
        BurstValley x = new BurstValley();
        x.house(0, 5, 0);
        x.person(1, 0, 1);
        x.person(2, 0, 1);
        x.person(3, 0, 1);
        x.thing(0, 101, 5);
        x.claim(v == 2 ? 0 : 2, 0);
        return x.proof(0, v);
    }

    /** "CLAIMS, 16 at most, numbered as they come" */
    private static void sixteenClaims() {
        BurstValley x = town();
        x.thing(0, 101, 1);
        x.thing(1, 101, 1);
        for (int i = 0; i < 16; i++) {
            Check.due("claim", x.claim(i / 4, i % 4), i);
        }
        Check.due("the 17th", x.claim(0, 4), FULL);
        Check.due("the 17th", x.claim(3, 4), FULL);
        Check.due("many(9)", x.many(9), 16);
        Check.due("CLAIM 15", x.claimOf(15, 0, 0), 3);
        Check.due("CLAIM 15", x.claimOf(15, 0, 1), 3);
        Check.due("no CLAIM 16", x.claimOf(16, 0, 0), BAD);
    }

    /** "STATE: this PERSON CLAIMS it already" */
    private static void eachPersonOnce() {
        BurstValley x = town();
        Check.due("claim", x.claim(1, 1), 0);
        Check.due("again", x.claim(1, 1), STATE);
        Check.due("another PERSON", x.claim(2, 1), 1);
        Check.due("another THING", x.claim(1, 2), 2);
        Check.due("one of the KIN", x.claim(0, 1), 3);
        x.days(9);
        Check.due("again on another DAY", x.claim(2, 1), STATE);
        x.fund(9);
        x.offer(0, 9);
        Check.due("again when PAID", x.claim(1, 1), STATE);
        Check.due("many(9)", x.many(9), 4);
    }

    /** "PROOFS of a CLAIM, 24 at most of all", "(-1; told again, it fills a place)" */
    private static void twentyFourProofs() {
        BurstValley x = twoClaims();
        for (int i = 1; i <= 24; i++) {
            Check.due("a shopbook", x.proof(i % 2, -1), 1);
            Check.due("fills a place", x.many(11), i);
        }
        Check.due("the 25th", x.proof(0, -1), FULL);
        Check.due("the 25th", x.proof(1, 0), FULL);
        Check.due("many(11)", x.many(11), 24);
        Check.due("counts once", x.claimOf(0, 0, 2), 1);
        BurstValley y = twoClaims();
        for (int i = 0; i < 23; i++) {
            y.proof(0, -1);
        }
        Check.due("the 24th", y.proof(1, 2), 1);
        Check.due("the 25th", y.proof(1, 3), FULL);
    }

    /** "(each counts once, shopbooks together once)" */
    private static void proofsThatCount() {
        BurstValley x = new BurstValley();
        x.house(0, 5, 0);
        x.person(0, 0, 0);
        for (int i = 1; i < 16; i++) {
            x.person(1 + i % 9, 0, 0);
        }
        x.thing(0, 101, 5);
        x.thing(0, 101, 5);
        x.claim(0, 0);
        x.claim(0, 1);
        Check.due("none", x.claimOf(0, 0, 2), 0);
        Check.due("a shopbook", x.proof(0, -1), 1);
        Check.due("PERSON 15", x.proof(0, 15), 2);
        Check.due("again", x.proof(0, 15), 2);
        Check.due("a shopbook again", x.proof(0, -1), 2);
        for (int i = 1; i < 15; i++) {
            Check.due("PERSON " + i, x.proof(0, i), 2 + i);
        }
        Check.due("of CLAIM 1 none", x.claimOf(1, 0, 2), 0);
        Check.due("one of CLAIM 1", x.proof(1, 15), 1);
        Check.due("all of CLAIM 0", x.claimOf(0, 0, 2), 16);
    }

    /** "(a PERSON of another KIN than the claimant)" */
    private static void proofsOfAnotherKin() {
        BurstValley x = town();
        x.claim(0, 0);
        x.claim(3, 0);
        x.claim(1, 0);
        Check.due("the claimant", x.proof(0, 0), STATE);
        Check.due("one of the KIN", x.proof(0, 3), STATE);
        Check.due("one of the KIN", x.proof(1, 0), STATE);
        Check.due("of another KIN", x.proof(2, 0), 1);
        Check.due("of another KIN", x.proof(2, 3), 2);
        Check.due("another claimant of the THING", x.proof(0, 1), 1);
        x.safe(2, true);
        Check.due("one who is SAFE", x.proof(0, 2), 2);
        Check.due("many(11)", x.many(11), 4);
    }

    private static void madeToday() {
        BurstValley x = town();
        x.claim(0, 0);
        x.days(5);
        x.claim(1, 1);
        x.days(5);
        Edges.read(x, "late 4; pay 50;");
        Check.due("made on 0", x.claimOf(0, 10, 3), 0);
        Check.due("made on 5", x.claimOf(1, 10, 3), 1);
    }

    /** "it was made on a DAY above N of the latest late (none: never)" */
    private static void lateOfItsDay() {
        for (int day : new int[] {0, 1, 50, 99}) {
            for (int n = Math.max(0, day - 1); n <= day + 1; n++) {
                BurstValley x = town();
                if (day > 0) {
                    x.days(day);
                }
                x.claim(0, 0);
                Edges.read(x, new StringBuilder("pay 50;late ").append(n).append(";").toString());
                Check.due("made on " + day + ", late " + n, x.claimOf(0, day, 3), day > n ? 1 : 0);
                Check.due("OWED", x.claimOf(0, day, 4), day > n ? 0 : 100);
            }
        }
        BurstValley y = town();
        for (int i = 0; i < 10; i++) {
            y.days(99);
        }
        y.days(9);
        y.claim(0, 0);
        Edges.read(y, "pay 50;");
        Check.due("no late: never", y.claimOf(0, 999, 3), 0);
        Check.due("read", Edges.read(y, "late 999;"), 1);
        Check.due("late 999", y.claimOf(0, 999, 3), 0);
        Edges.read(y, "late 998;");
        Check.due("late 998", y.claimOf(0, 999, 3), 1);
    }

    private static void latestLateAndProof() {
        BurstValley x = town();
        x.days(9);
        x.claim(0, 0);
        Edges.read(x, "late 0; late 9;");
        Check.due("the latest late lets it", x.claimOf(0, 9, 3), 0);
        Edges.read(x, "late 9; pay 5; late 8;");
        Check.due("the latest late doesn't", x.claimOf(0, 9, 3), 1);
        Edges.read(x, "proof 5; proof 0;");
        Check.due("the latest proof lets it", x.claimOf(0, 9, 3), 0);
        Edges.read(x, "proof 0; pay 5; proof 1;");
        Check.due("the latest proof doesn't", x.claimOf(0, 9, 3), 1);
        Edges.read(x, "rank 0;");
        Check.due("of another VERSION", x.claimOf(0, 9, 3), 0);
    }

    /** "proofs are below N of the latest proof (0 without)" */
    private static void proofsBelow() {
        BurstValley x = town();
        x.claim(0, 0);
        Check.due("without", x.claimOf(0, 0, 3), 0);
        Edges.read(x, "proof 2;");
        int[] by = {1, 1, 2};
        int[] barred = {1, 1, 0};
        Check.due("none", x.claimOf(0, 0, 3), 1);
        for (int i = 0; i < by.length; i++) {
            x.proof(0, by[i]);
            Check.due("proof " + i, x.claimOf(0, 0, 3), barred[i]);
        }
        Edges.read(x, "proof 3;");
        Check.due("two are below 3", x.claimOf(0, 0, 3), 1);
        x.proof(0, -1);
        Check.due("three aren't", x.claimOf(0, 0, 3), 0);
        Edges.read(x, "proof 999;");
        Check.due("999", x.claimOf(0, 0, 3), 1);
        Edges.read(x, "proof 0;");
        Check.due("0", x.claimOf(0, 0, 3), 0);
    }

    /** "It is BARRED, if the COND of some bar holds" */
    private static void barredByAnyBar() {
        String[] texts = {"bar if kin=1;", "bar if kin=2; bar if kin=1;", "bar if kin=1; bar if kin=2;",
            "pay 5;pay 5;pay 5;pay 5;pay 5;pay 5;pay 5;pay 5;bar if kin=1;"};
        for (String text : texts) {
            BurstValley x = town();
            x.claim(0, 0);
            x.claim(2, 0);
            Edges.read(x, text);
            Check.due("BARRED by " + text, x.claimOf(0, 0, 3), 1);
            Check.due("OWED", x.claimOf(0, 0, 4), 0);
            Check.due("another CLAIM isn't", x.claimOf(1, 0, 3), 0);
        }
    }

    /** "WORTH times N of the first pay whose COND holds (0 without) by 100, cut" */
    private static void owedIsCut() {
        int[][] cases = {{1, 99, 0}, {1, 100, 1}, {99, 1, 0}, {100, 1, 1}, {999, 100, 999}, {999, 99, 989}, {999, 0, 0},
            {3, 33, 0}, {3, 34, 1}, {7, 43, 3}};
        for (int[] c : cases) {
            BurstValley x = ofWorth(c[0]);
            Check.due("without", x.claimOf(0, 0, 4), 0);
            Edges.read(x, new StringBuilder("pay ").append(c[1]).append(";").toString());
            Check.due(c[1] + " of " + c[0], x.claimOf(0, 0, 4), c[2]);
        }
    }

    private static void owedByTheFirstPay() {
        BurstValley x = town();
        x.claim(0, 0);
        Edges.read(x, "rank 1; pay 0; pay 50;");
        Check.due("a first one of 0", x.claimOf(0, 0, 4), 0);
        Edges.read(x, "pay 10 if kin=2; pay 20 if kin=1; pay 30 if kin=1; pay 40;");
        Check.due("the first whose COND holds", x.claimOf(0, 0, 4), 40);
        Edges.read(x, "pay 10 if kin=2; pay 20 if kin=3;");
        Check.due("none holds", x.claimOf(0, 0, 4), 0);
        Edges.read(x, "rank 1;rank 1;rank 1;rank 1;rank 1;rank 1;rank 1;rank 1;pay 50;");
        Check.due("the ninth LINE", x.claimOf(0, 0, 4), 100);
    }

    /** "N of the first rank whose COND holds (9 without)" */
    private static void rankByTheFirstRank() {
        BurstValley x = town();
        x.claim(0, 0);
        Check.due("no TEXT", x.claimOf(0, 0, 5), 9);
        Edges.read(x, "pay 5;");
        Check.due("without", x.claimOf(0, 0, 5), 9);
        Edges.read(x, "rank 0;");
        Check.due("0", x.claimOf(0, 0, 5), 0);
        Edges.read(x, "rank 4 if kin=2;");
        Check.due("none holds", x.claimOf(0, 0, 5), 9);
        Edges.read(x, "rank 4 if kin=2; rank 5 if kin=1; rank 6 if kin=1;");
        Check.due("the first whose COND holds", x.claimOf(0, 0, 5), 5);
        Edges.read(x, "bar if kin=1; rank 7;");
        Check.due("BARRED all the same", x.claimOf(0, 0, 5), 7);
        Edges.read(x, "rank 9; rank 1;");
        Check.due("9", x.claimOf(0, 0, 5), 9);
    }

    /** "SIGN: < | = | >" */
    private static void signsAtTheirEdges() {
        String[] facts = {"worth", "sort", "trade", "kin", "proofs", "reach"};
        int[] values = {200, 2, 1, 1, 1, 4};
        for (int f = 0; f < facts.length; f++) {
            for (int off = -1; off <= 1; off++) {
                int n = values[f] + off;
                StringBuilder text = new StringBuilder();
                for (int k = 0; k < 3; k++) {
                    text.append("bar if ").append(facts[f]).append("<=>".charAt(k)).append(n).append(";");
                }
                BurstValley x = town();
                x.claim(0, 0);
                x.proof(0, -1);
                Edges.read(x, text.toString());
                Check.due(facts[f] + " and " + n, x.why(0, 0, 2), off > 0 ? 0 : off == 0 ? 1 : 2);
            }
        }
        BurstValley y = ofWorth(999);
        Edges.read(y, "bar if worth>999; bar if worth<999; bar if worth=999;");
        Check.due("999", y.why(0, 0, 2), 2);
        Edges.read(y, "bar if proofs<0; bar if proofs>0; bar if proofs=0;");
        Check.due("0", y.why(0, 0, 2), 2);
        Edges.read(y, "bar if reach<0; bar if reach>0; bar if reach=0;");
        Check.due("REACH 0", y.why(0, 0, 2), 2);
    }

    /** "worth, sort: the THING's; trade, kin: the claimant's; ..; reach: that of its HOUSE" */
    private static void factsAreThoseOfTheirOwn() {
        BurstValley x = town();
        x.thing(1, 750, 77);
        x.claim(3, 0);
        x.claim(0, 3);
        x.proof(1, 1);
        x.proof(1, 2);
        Edges.read(x, "bar if worth=200 and sort=2 and trade=4 and kin=1 and proofs=0 and reach=4;"
                + "bar if worth=77 and sort=7 and trade=1 and kin=1 and proofs=2 and reach=6;");
        Check.due("the THING's HOUSE, not the claimant's", x.why(0, 0, 2), 0);
        Check.due("the THING's HOUSE, not the claimant's", x.why(1, 0, 2), 1);
    }

    /** "ALL { or ALL }", "ONE { and ONE }": what is joined by and goes ahead; not is of the next ONE alone. */
    private static void andBeforeOr() {
        String yes = "kin=1";
        String no = "kin=2";
        boolean[] truths = {false, true};
        for (boolean a : truths) {
            for (boolean b : truths) {
                for (boolean c : truths) {
                    String p = a ? yes : no;
                    String q = b ? yes : no;
                    String r = c ? yes : no;
                    holds(p + " or " + q + " and " + r, a || b && c);
                    holds(p + " and " + q + " or " + r, a && b || c);
                    holds("(" + p + " or " + q + ") and " + r, (a || b) && c);
                    holds(p + " and (" + q + " or " + r + ")", a && (b || c));
                    holds("not " + p + " and " + q + " or " + r, !a && b || c);
                    holds("not (" + p + " and " + q + ") or " + r, !(a && b) || c);
                    holds("not not " + p + " or not " + q + " and not " + r, a || !b && !c);
                    holds("not (" + p + " or " + q + " and not (" + r + "))", !(a || b && !c));
                }
            }
        }
    }

    private static void holds(String cond, boolean due) {
        BurstValley x = town();
        x.claim(0, 0);
        Edges.read(x, new StringBuilder("bar if ").append(cond).append(";").toString());
        Check.due(cond, x.why(0, 0, 2), due ? 0 : NONE);
    }

    /** In START s of WAY 0 500 go down: HOUSE 0 in REACH 0 falls. */
    private static BurstValley flooded() {
        BurstValley x = new BurstValley();
        x.pond(500);
        Edges.table(x, 0, 500);
        x.house(0, 50, 0);
        x.house(0, 51, 0);
        x.person(1, 0, 1);
        x.person(2, 1, 2);
        x.thing(0, 199, 100);
        x.thing(1, 199, 100);
        x.claim(0, 0);
        x.claim(0, 1);
        x.claim(1, 0);
        return x;
    }

    /** "fell: whether the HOUSE falls in each POSSIBLE NIGHT (no, if none is)" */
    private static void fellInEachPossibleNight() {
        BurstValley x = flooded();
        Edges.read(x, "pay 10 if fell; pay 20 if not fell;");
        Check.due("in 30 of 90", x.claimOf(0, 0, 4), 20);
        x.word(0, 1, 0, 29);
        Check.due("in each", x.claimOf(0, 0, 4), 10);
        Check.due("1 too strong", x.claimOf(1, 0, 4), 20);
        x.word(1, 3, 0, 29);
        Check.due("in each still", x.claimOf(0, 0, 4), 10);
        x.tear(0, true);
        Check.due("in 30 of 60", x.claimOf(0, 0, 4), 20);
        x.word(1, 4, 0, 29);
        Check.due("none is POSSIBLE", x.claimOf(0, 0, 4), 20);
        x.tear(2, true);
        x.tear(0, false);
        x.pond(499);
        Check.due("1 too little", x.claimOf(0, 0, 4), 20);
    }

    /** "found: whether there is a FIND of which it is one of WHOSE" */
    private static void foundByAnyFind() {
        BurstValley x = flooded();
        Edges.read(x, "rank 1 if found; rank 2 if not found;");
        Check.due("no FIND", x.claimOf(0, 0, 7), 0);
        x.find(2, 0);
        x.find(1, 1);
        Check.due("of another SORT, of another REACH", x.claimOf(0, 0, 7), 0);
        Check.due("RANK", x.claimOf(0, 0, 5), 2);
        x.find(1, 0);
        Check.due("the third FIND", x.claimOf(0, 0, 7), 1);
        Check.due("RANK", x.claimOf(0, 0, 5), 1);
        Check.due("of a HOUSE that stands", x.claimOf(1, 0, 7), 0);
        Check.due("another CLAIM of the THING", x.claimOf(2, 0, 7), 1);
        x.word(0, 2, 0, 29);
        Check.due("in no POSSIBLE NIGHT", x.claimOf(0, 0, 7), 0);
        x.word(0, 1, 0, 29);
        Check.due("none is POSSIBLE", x.claimOf(0, 0, 7), 0);
        x.tear(0, true);
        Check.due("in each", x.claimOf(0, 0, 7), 1);
    }

    /** What is POSSIBLE was never asked for ahead of these calls. */
    private static void factsOfTheFirstCall() {
        for (int call = 0; call < 6; call++) {
            BurstValley x = flooded();
            x.word(0, 1, 0, 29);
            x.find(1, 0);
            Edges.read(x, "pay 10 if fell and found; rank 3 if found; bar if not fell and kin=9;");
            x.fund(100);
            if (call == 5) {
                x.offer(0, 5);
                x.offer(1, 6);
            }
            int got = call == 0 ? x.why(0, 0, 0) : call == 1 ? x.claimOf(0, 0, 4) : call == 2 ? x.claimOf(0, 0, 5)
                    : call == 3 ? x.claimOf(0, 0, 7) : call == 4 ? x.pay() : x.likest(2);
            int[] due = {0, 10, 3, 1, 2, 2};
            Check.due("call " + call, got, due[call]);
        }
    }

    /** "Which LINE of THE ACT of a DAY tells", "the first bar that bars it" */
    private static void whyOfFirstAndLastLine() {
        BurstValley x = town();
        x.claim(0, 0);
        Edges.read(x, "pay 5; rank 5 if kin=2; bar if kin=2; late 9; late 9; proof 0; pay 6; bar if kin=1; rank 6;");
        Check.due("the first LINE", x.why(0, 0, 0), 0);
        Check.due("the ninth LINE", x.why(0, 0, 1), 8);
        Check.due("the eighth LINE", x.why(0, 0, 2), 7);
        Edges.read(x, "rank 5; pay 5 if kin=2; bar if kin=1; bar if kin=1;");
        Check.due("none", x.why(0, 0, 0), NONE);
        Check.due("the first LINE", x.why(0, 0, 1), 0);
        Check.due("the first of two", x.why(0, 0, 2), 2);
        Edges.read(x, "late 0; proof 9;");
        for (int what = 0; what < 3; what++) {
            Check.due("none", x.why(0, 0, what), NONE);
        }
        Check.due("BARRED, but by no bar", x.claimOf(0, 0, 3), 1);
    }

    /** "OVER is a HOUSE, if the THINGS that are CLAIMED from it (each once) are worth more together than its ROOM." */
    private static void overIsMoreThanRoom() {
        for (int off = -1; off <= 1; off++) {
            BurstValley x = new BurstValley();
            for (int h = 0; h < 10; h++) {
                x.house(h, 5, 300 + off);
            }
            x.person(1, 0, 1);
            x.person(2, 0, 1);
            x.thing(0, 101, 200);
            x.thing(0, 101, 100);
            x.thing(9, 101, 301);
            x.thing(0, 101, 999);
            x.claim(0, 0);
            x.claim(0, 1);
            x.claim(1, 1);
            x.claim(1, 0);
            x.claim(0, 2);
            Check.due("300 in " + (300 + off), x.odd(0), (off < 0 ? 1 : 0) | (off < 1 ? 1 << 9 : 0));
        }
        BurstValley y = new BurstValley();
        y.house(0, 5, 0);
        y.person(1, 0, 1);
        y.thing(0, 101, 1);
        Check.due("nothing CLAIMED, no ROOM", y.odd(0), 0);
        y.claim(0, 0);
        Check.due("1 in no ROOM", y.odd(0), 1);
        BurstValley z = new BurstValley();
        z.house(0, 5, 999);
        z.person(1, 0, 1);
        for (int i = 0; i < 12; i++) {
            z.thing(0, 101, 83);
            z.claim(0, i);
        }
        Check.due("996 in 999", z.odd(0), 0);
    }

    /** "TWICE is a THING that two PERSONS or more CLAIM." */
    private static void twiceIsTwoOrMore() {
        BurstValley x = town();
        Check.due("none", x.odd(1), 0);
        for (int i = 3; i < 12; i++) {
            x.thing(0, 101, 1);
        }
        x.claim(0, 0);
        x.claim(0, 11);
        Check.due("one PERSON each", x.odd(1), 0);
        x.claim(1, 11);
        Check.due("two", x.odd(1), 1 << 11);
        x.claim(2, 11);
        x.claim(3, 11);
        Check.due("four", x.odd(1), 1 << 11);
        x.claim(3, 0);
        Check.due("two of one KIN", x.odd(1), 1 << 11 | 1);
    }

    /** "THE FUND (0 at first, 99999 at most)" */
    private static void fundAtItsMost() {
        BurstValley x = new BurstValley();
        Check.due("0 at first", x.many(12), 0);
        for (int i = 1; i <= 10; i++) {
            Check.due("fund", x.fund(9999), 9999 * i);
        }
        Check.due("99998", x.fund(8), 99998);
        Check.due("just 99999", x.fund(1), 99999);
        Check.due("no more", x.fund(1), 99999);
        Check.due("no more", x.fund(9999), 99999);
        BurstValley y = new BurstValley();
        for (int i = 0; i < 10; i++) {
            y.fund(9999);
        }
        Check.due("far above", y.fund(9999), 99999);
        Check.due("many(12)", y.many(12), 99999);
    }

    /** "if that is above 0 and THE FUND has as much; else it waits (those behind it go on)" */
    private static void payOfWhatIsThere() {
        BurstValley x = ofWorth(100);
        Check.due("no TEXT: OWED 0", x.pay(), 0);
        Edges.read(x, "pay 50;");
        Check.due("THE FUND is empty", x.pay(), 0);
        x.fund(49);
        Check.due("1 less", x.pay(), 0);
        Check.due("stays", x.many(12), 49);
        Check.due("not PAID", x.claimOf(0, 0, 6), NONE);
        x.fund(1);
        Check.due("as much", x.pay(), 1);
        Check.due("all of it", x.many(12), 0);
        Check.due("PAID", x.claimOf(0, 0, 6), 50);
        BurstValley y = ofWorth(1);
        Edges.read(y, "pay 99;");
        y.fund(9);
        Check.due("OWED 0", y.pay(), 0);
        Check.due("isn't PAID", y.many(10), 0);
        Edges.read(y, "pay 100;");
        Check.due("OWED 1", y.pay(), 1);
        Check.due("many(10)", y.many(10), 1);
    }

    private static void payByRanksAndNumbers() {
        BurstValley x = new BurstValley();
        x.house(0, 5, 0);
        for (int i = 0; i < 10; i++) {
            x.person(i, 0, 0);
        }
        x.thing(0, 101, 100);
        for (int i = 0; i < 10; i++) {
            x.claim(i, 0);
        }
        // RANK 0 is of KIN 9, 9 (without) of all that are left.
        Edges.read(x, "pay 100; rank 0 if kin=9; rank 1 if kin=8; rank 8 if kin=7;");
        int[] order = {9, 8, 7, 0, 1, 2, 3, 4, 5, 6};
        for (int claim : order) {
            x.fund(100);
            Check.due("one", x.pay(), 1);
            Check.due("CLAIM " + claim, x.claimOf(claim, 0, 6), 100);
        }
        Check.due("none is left", x.pay(), 0);
        BurstValley y = new BurstValley();
        y.house(0, 5, 0);
        y.person(1, 0, 0);
        int[] worth = {100, 60, 50, 41, 40, 9};
        for (int i = 0; i < worth.length; i++) {
            y.thing(0, 101, worth[i]);
            y.claim(0, i);
        }
        Edges.read(y, "pay 100;");
        y.fund(99);
        Check.due("60 and 9", y.pay(), 2);
        Check.due("the second", y.claimOf(1, 0, 6), 60);
        Check.due("the last", y.claimOf(5, 0, 6), 9);
        Check.due("30 left", y.many(12), 30);
        y.fund(10);
        Check.due("not enough for 41, but for 40", y.pay(), 1);
        Check.due("the fifth", y.claimOf(4, 0, 6), 40);
    }

    private static void payOnce() {
        BurstValley x = twoClaims();
        Edges.read(x, "pay 10;");
        x.offer(0, 7);
        Check.due("the other one alone", x.pay(), 1);
        Check.due("what was OFFERED", x.claimOf(0, 0, 6), 7);
        Check.due("what was OWED", x.claimOf(1, 0, 6), 20);
        Check.due("none is left", x.pay(), 0);
        Check.due("what THE FUND has", x.many(12), 9999 - 27);
        Check.due("an OFFER for what is PAID", x.offer(1, 1), STATE);
        Edges.read(x, "pay 50;");
        Check.due("another ACT pays none again", x.pay(), 0);
        Check.due("PAID as it was", x.claimOf(1, 0, 6), 20);
    }

    private static void payByTheActOfToday() {
        BurstValley x = twoClaims();
        Edges.read(x, "pay 10 if kin=1;");
        x.days(1);
        Edges.read(x, "pay 30 if kin=2;");
        Check.due("of yesterday still OWED", x.claimOf(0, 0, 4), 20);
        Check.due("by that of TODAY", x.pay(), 1);
        Check.due("not this one", x.claimOf(0, 1, 6), NONE);
        Check.due("this one", x.claimOf(1, 1, 6), 60);
    }

    /** "STATE: it is PAID, or THE FUND has less" */
    private static void offerOfWhatIsThere() {
        BurstValley x = town();
        x.claim(0, 0);
        x.claim(1, 1);
        Check.due("an empty FUND", x.offer(0, 1), STATE);
        x.fund(50);
        Check.due("1 more than it has", x.offer(0, 51), STATE);
        Check.due("stays", x.many(12), 50);
        Check.due("all that it has", x.offer(0, 50), 0);
        Check.due("PAID", x.claimOf(0, 0, 6), 50);
        x.fund(999);
        Check.due("PAID already", x.offer(0, 1), STATE);
        Check.due("the most", x.offer(1, 999), 0);
        Check.due("many(10)", x.many(10), 2);
    }

    /** "OWED: 0 if BARRED": pay() passes it over, an OFFER doesn't ask. */
    private static void barredIsOwedNothing() {
        BurstValley x = twoClaims();
        Edges.read(x, "pay 50; proof 1;");
        Check.due("both are BARRED", x.pay(), 0);
        Check.due("OWED", x.claimOf(1, 0, 4), 0);
        x.proof(1, -1);
        Check.due("one isn't any more", x.pay(), 1);
        Check.due("that one", x.claimOf(1, 0, 6), 100);
        Check.due("the other one waits", x.claimOf(0, 0, 6), NONE);
        Check.due("an OFFER for it", x.offer(0, 999), 9999 - 100 - 999);
        Check.due("BARRED and PAID", x.claimOf(0, 0, 3), 1);
        Check.due("PAID", x.claimOf(0, 0, 6), 999);
        Check.due("many(10)", x.many(10), 2);
    }

    /** "UNLIKE are two CLAIMS that are both PAID, of THINGS of one SORT and WORTH, not the same sum." */
    private static void unlikeOnlyIf() {
        int[][] cases = {
            {205, 200, 5, 6, 1}, {205, 200, 5, 5, 0}, {299, 200, 5, 6, 1}, {205, 201, 5, 6, 0}, {205, 199, 5, 6, 0},
            {105, 200, 5, 6, 0}, {305, 200, 5, 6, 0}, {205, 200, 5, 0, 0}, {205, 200, 0, 6, 0}, {205, 200, 0, 0, 0},
        };
        for (int[] c : cases) {
            BurstValley x = town();
            x.thing(0, c[0], c[1]);
            x.claim(0, 0);
            x.claim(0, 3);
            x.fund(99);
            for (int i = 0; i < 2; i++) {
                if (c[2 + i] > 0) {
                    x.offer(i, c[2 + i]);
                }
            }
            int[] due = {0, 1, 0};
            for (int what = 0; what < 3; what++) {
                Check.due("likest " + what, x.likest(what), c[4] == 1 ? due[what] : NONE);
            }
        }
        BurstValley y = town();
        y.claim(1, 0);
        y.claim(2, 0);
        y.fund(99);
        y.offer(1, 5);
        y.offer(0, 6);
        Check.due("of one THING", y.likest(0), 0);
        Check.due("of one THING", y.likest(1), 1);
        Check.due("trade and kin", y.likest(2), 2);
    }

    /** "of several the lesser first CLAIM, then the lesser second one" */
    private static void likestOfSeveral() {
        BurstValley x = new BurstValley();
        x.house(0, 5, 0);
        for (int i = 0; i < 4; i++) {
            x.person(i == 3 ? 0 : i, 0, i == 3 ? 0 : i);
        }
        x.thing(0, 101, 9);
        for (int i = 0; i < 4; i++) {
            x.claim(i, 0);
        }
        x.fund(99);
        x.offer(3, 5);
        x.offer(2, 6);
        pair(x, 2, 3, 2);
        x.offer(1, 7);
        pair(x, 1, 2, 2);
        x.offer(0, 5);
        pair(x, 0, 1, 2);
        BurstValley y = new BurstValley();
        y.house(0, 5, 0);
        for (int i = 0; i < 4; i++) {
            y.person(i == 3 ? 0 : i, 0, i == 3 ? 0 : i);
        }
        y.thing(0, 101, 9);
        for (int i = 0; i < 4; i++) {
            y.claim(i, 0);
            y.fund(9);
            y.offer(i, 5 + i);
        }
        pair(y, 0, 3, 0);
    }

    private static void pair(BurstValley x, int first, int second, int differ) {
        Check.due("first", x.likest(0), first);
        Check.due("second", x.likest(1), second);
        Check.due("how many differ", x.likest(2), differ);
    }

    /** "the fewest of these differ: trade, kin, proofs, reach, fell, found (TODAY)" */
    private static void likestCountsEachOfSix() {
        for (int bits = 0; bits < 64; bits++) {
            BurstValley x = new BurstValley();
            x.pond(999);
            Edges.table(x, 0, 999);
            x.word(0, 1, 0, 0);
            boolean otherReach = (bits & 8) != 0;
            boolean fell = (bits & 16) != 0;
            boolean found = (bits & 32) != 0;
            x.house(0, found ? 5 : 99, 0);
            x.house(otherReach ? 1 : 0, found != fell ? 5 : 99, 0);
            x.person(1, 0, 1);
            x.person((bits & 2) != 0 ? 2 : 1, 0, (bits & 1) != 0 ? 2 : 1);
            x.person(3, 0, 0);
            x.thing(0, 101, 9);
            x.thing(1, 199, 9);
            x.claim(0, 0);
            x.claim(1, 1);
            if ((bits & 4) != 0) {
                x.proof(1, 2);
            }
            if (found) {
                x.find(1, x.lies(0, 0, 0) % 100 % 12);
            }
            x.fund(9);
            x.offer(0, 5);
            x.offer(1, 4);
            boolean isFound = x.claimOf(0, 0, 7) == 1;
            boolean otherFound = x.claimOf(1, 0, 7) == 1;
            int differ = Integer.bitCount(bits & 15) + ((x.sure(0) == 2) != (x.sure(1) == 2) ? 1 : 0)
                    + (isFound != otherFound ? 1 : 0);
            pair(x, 0, 1, differ);
        }
    }
}
