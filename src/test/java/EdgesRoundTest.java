/** Boundary cases of promises 43 to 49, sentence by sentence. */
final class EdgesRoundTest {
    private static final int BAD = BurstValley.BAD;
    private static final int FULL = BurstValley.FULL;
    private static final int NONE = BurstValley.NONE;
    private static final int MIN = Integer.MIN_VALUE;
    private static final int MAX = Integer.MAX_VALUE;

    public static void main(String[] args) {
        reachOfARound();
        noneToSevenClaims();
        bitsOfNone();
        daysToTheFirst();
        daysToTheNext();
        daysBehindTheLastDay();
        weightOfWhatFalls();
        firstByNumbers();
        leastOfAllOrders();
        rowsOfTheLatestRound();
        rowsThatAreThere();
        rowBecomesAnything();
        dropToNone();
        judgeWithoutARound();
        judgeOfEachFault();
        judgeOfARowAhead();
        judgeOfTheFirstFault();
        judgeOfTooFew();
        judgeByTheRoundsDayAndReach();
        judgeOfClaimsThatAreGone();
        judgeByHousesAsTheyAre();
        yearsAtTheirEdges();
        debtGrowsUp();
        incomeIsCut();
        sixtyYears();
        leastRate();
        Check.finish("EdgesRoundTest");
    }

    /** One PERSON who CLAIMS a THING of a HOUSE in each of these REACHES. */
    private static BurstValley town(int... reaches) {
        BurstValley x = new BurstValley();
        for (int reach : reaches) {
            x.house(reach, 50, 0);
        }
        x.person(1, 0, 0);
        for (int i = 0; i < reaches.length; i++) {
            x.thing(i, 101, 5);
            x.claim(0, i);
        }
        return x;
    }

    private static void reachOfARound() {
        Edges.range("REACH", 0, 11, v -> town(3).round(1, v));
    }

    /** "(7 at most)", "NONE: no CLAIMS" */
    private static void noneToSevenClaims() {
        for (int n = 0; n <= 10; n++) {
            BurstValley x = town(0, 0, 0, 0, 0, 0, 0, 0, 0, 0);
            int due = n == 0 ? NONE : n > 7 ? FULL : n * (n - 1) / 2;
            Check.due(n + " CLAIMS", x.round((1 << n) - 1, 0), due);
            Check.due("as many ROWS", x.many(13), due < 0 ? 0 : n);
        }
        BurstValley y = sixteenClaims();
        Check.due("16 CLAIMS", y.round(0xFFFF, 0), FULL);
        Check.due("7 CLAIMS", y.round(0xFE00, 0), 21);
        Check.due("the first", y.row(0, 0), 9);
        Check.due("the last", y.row(6, 0), 15);
    }

    private static BurstValley sixteenClaims() {
        BurstValley x = new BurstValley();
        x.house(0, 50, 0);
        x.thing(0, 101, 5);
        for (int i = 0; i < 16; i++) {
            x.person(1, 0, 0);
            x.claim(i, 0);
        }
        return x;
    }

    /** "BAD: a bit of none" */
    private static void bitsOfNone() {
        for (int bit = 0; bit < 32; bit++) {
            Check.due("bit " + bit + " of 3", town(0, 0, 0).round(1 << bit, 0) == BAD ? 1 : 0, bit > 2 ? 1 : 0);
            Check.due("bit " + bit + " of 16", sixteenClaims().round(1 << bit, 0), bit > 15 ? BAD : 0);
            Check.due("bit " + bit + " of none", new BurstValley().round(1 << bit, 0), BAD);
        }
        Check.due("all bits", town(0).round(-1, 0), BAD);
    }

    /** "the first one from TODAY on, as many DAYS later as the two REACHES are apart (2 and 5: 3)" */
    private static void daysToTheFirst() {
        int[][] cases = {{2, 5, 3}, {5, 2, 3}, {5, 5, 0}, {0, 11, 11}, {11, 0, 11}, {0, 0, 0}, {11, 11, 0}, {6, 7, 1}};
        for (int[] c : cases) {
            for (int today : new int[] {0, 40}) {
                BurstValley x = town(c[1]);
                if (today > 0) {
                    x.days(today);
                }
                Check.due("COST from " + c[0] + " to " + c[1], x.round(1, c[0]), c[2]);
                Check.due("DAY", x.row(0, 1), today + c[2]);
                Check.due("CLAIM", x.row(0, 0), 0);
                Check.due("judge", x.judge(), 0);
            }
        }
    }

    /** "each next one 1 DAY later and as many DAYS as the two REACHES are apart" */
    private static void daysToTheNext() {
        int[][] cases = {{2, 5, 4}, {5, 5, 1}, {0, 11, 12}, {6, 7, 2}};
        for (int[] c : cases) {
            BurstValley x = town(c[0], c[1]);
            Check.due("COST", x.round(0b11, c[0]), c[2]);
            Check.due("first DAY", x.row(0, 1), 0);
            Check.due("next DAY", x.row(1, 1), c[2]);
            BurstValley y = town(c[1], c[0]);
            Check.due("COST", y.round(0b11, c[1]), c[2]);
            Check.due("next DAY", y.row(1, 1), c[2]);
        }
    }

    private static void daysBehindTheLastDay() {
        BurstValley x = town(0, 11);
        for (int i = 0; i < 10; i++) {
            x.days(99);
        }
        x.days(9);
        Check.due("COST from DAY 999", x.round(0b11, 0), 12);
        Check.due("DAY", x.row(1, 1), 1011);
        Check.due("judge", x.judge(), 0);
    }

    /** In each NIGHT of all WAYS 999 go down: HOUSES of STRENGTH 50 in REACH 0 fall. */
    private static void flood(BurstValley x) {
        x.pond(999);
        for (int way = 0; way < 3; way++) {
            Edges.table(x, way, 999);
        }
    }

    /** "times 3 for a CLAIM whose HOUSE falls in each POSSIBLE NIGHT, else times 1" */
    private static void weightOfWhatFalls() {
        BurstValley x = town(0, 4);
        Check.due("none falls", x.round(0b11, 2), 2 + 7);
        Check.due("the lesser number", x.row(0, 0), 0);
        flood(x);
        Check.due("HOUSE 0 falls in each", x.sure(0), 2);
        Check.due("3 times 2", x.round(0b01, 2), 6);
        Check.due("2", x.round(0b10, 2), 2);
        Check.due("3 times 2, and 7", x.round(0b11, 2), 6 + 7);
        Edges.table(x, 1, 1);
        Check.due("in some alone", x.round(0b01, 2), 2);
        x.word(0, 5, 0, 29);
        Check.due("in each again", x.round(0b01, 2), 6);
        x.word(0, 2, 0, 29);
        Check.due("none is POSSIBLE", x.round(0b01, 2), 2);
        BurstValley y = town(4, 0);
        flood(y);
        Check.due("the one that falls goes first", y.round(0b11, 2), 6 + 7);
        Check.due("though its number is greater", y.row(0, 0), 1);
        Check.due("DAYS are as they are", y.row(0, 1), 2);
    }

    /** "of several the first by numbers" */
    private static void firstByNumbers() {
        BurstValley x = town(5, 5, 5, 5);
        Check.due("all in one place", x.round(0b1111, 5), 0 + 1 + 2 + 3);
        for (int i = 0; i < 4; i++) {
            Check.due("by numbers", x.row(i, 0), i);
        }
        BurstValley y = town(7, 3);
        Check.due("as far to both sides", y.round(0b11, 5), 2 + 7);
        Check.due("the first by numbers", y.row(0, 0), 0);
        BurstValley z = town(9, 3, 7, 3);
        // 7 or 3 first? From 5: 7 (2), 9 (5), 3 (12), 3 (13) is 32; 3 (2), 3 (3), 7 (8), 9 (11) is 24.
        Check.due("COST", z.round(0b1111, 5), 24);
        int[] due = {1, 3, 2, 0};
        for (int i = 0; i < 4; i++) {
            Check.due("row " + i, z.row(i, 0), due[i]);
        }
    }

    /** All orders of seven, tried one behind the other. */
    private static void leastOfAllOrders() {
        int seed = 7;
        for (int turn = 0; turn < 12; turn++) {
            int[] reaches = new int[7];
            for (int i = 0; i < 7; i++) {
                seed = seed * 1103515245 + 12345;
                reaches[i] = turn % 3 == 0 ? (seed >>> 16) % 3 : (seed >>> 16) % 12;
            }
            BurstValley x = town(reaches);
            flood(x);
            int[] weight = new int[7];
            for (int i = 0; i < 7; i++) {
                weight[i] = x.sure(i) == 2 ? 3 : 1;
            }
            int from = (seed >>> 8) % 12;
            int[] best = new int[8];
            best[7] = MAX;
            orders(reaches, weight, new int[7], 0, 0, from, 0, 0, best);
            Check.due("COST", x.round(127, from), best[7]);
            for (int i = 0; i < 7; i++) {
                Check.due("row " + i, x.row(i, 0), best[i]);
            }
            Check.due("judge", x.judge(), 0);
        }
    }

    /** Goes through orders by numbers, so that the first of the least stays; best[7] is its COST. */
    private static void orders(int[] reaches, int[] weight, int[] order, int n, int heard, int at, int day, int cost,
            int[] best) {
        if (n == order.length) {
            if (cost < best[7]) {
                System.arraycopy(order, 0, best, 0, 7);
                best[7] = cost;
            }
            return;
        }
        for (int i = 0; i < order.length; i++) {
            if ((heard >> i & 1) == 0) {
                order[n] = i;
                int then = day + Math.abs(reaches[i] - at) + (n > 0 ? 1 : 0);
                orders(reaches, weight, order, n + 1, heard | 1 << i, reaches[i], then, cost + weight[i] * then, best);
            }
        }
    }

    private static void rowsOfTheLatestRound() {
        BurstValley x = town(1, 2, 3);
        x.round(0b111, 0);
        Check.due("three", x.many(13), 3);
        x.round(0b100, 0);
        Check.due("one", x.many(13), 1);
        Check.due("its CLAIM", x.row(0, 0), 2);
        Check.due("none behind it", x.row(1, 0), -9);
        Check.due("none behind it", x.alterRow(1, 0, 5), -9);
        Check.due("a refused one", x.round(0b1000, 0), BAD);
        Check.due("changes nothing", x.row(0, 0), 2);
        Check.due("a refused one", x.round(0, 0), NONE);
        Check.due("changes nothing", x.many(13), 1);
    }

    /** "-9: there is none such, another what" */
    private static void rowsThatAreThere() {
        BurstValley x = town(1, 2, 3, 4, 5, 6, 7);
        Check.due("none yet", x.row(0, 0), -9);
        Check.due("none yet", x.alterRow(0, 0, 1), -9);
        x.round(127, 0);
        for (int i = 0; i < 7; i++) {
            Check.due("row", x.row(i, 0), i);
            Check.due("row", x.row(i, 1), 1 + 2 * i);
            for (int what : new int[] {-1, 2, MIN, MAX}) {
                Check.due("another what", x.row(i, what), -9);
                Check.due("another what", x.alterRow(i, what, 5), -9);
            }
        }
        for (int i : new int[] {-1, 7, MIN, MAX}) {
            for (int what = 0; what < 2; what++) {
                Check.due("no such row", x.row(i, what), -9);
                Check.due("no such row", x.alterRow(i, what, 5), -9);
            }
        }
        Check.due("judge", x.judge(), 0);
    }

    /** "It becomes v: what it was." */
    private static void rowBecomesAnything() {
        BurstValley x = town(1, 2);
        x.round(0b11, 0);
        int[] values = {MIN, MAX, -1, -9, 0, 1};
        for (int what = 0; what < 2; what++) {
            int was = what == 0 ? 1 : 3;
            for (int v : values) {
                Check.due("what it was", x.alterRow(1, what, v), was);
                Check.due("what it is", x.row(1, what), v);
                was = v;
            }
        }
        Check.due("another row stays", x.row(0, 0), 0);
        Check.due("another row stays", x.row(0, 1), 1);
    }

    /** "how many there are. NONE: there are none." */
    private static void dropToNone() {
        BurstValley x = town(1, 2, 3);
        Check.due("none yet", x.dropRow(), NONE);
        x.round(0b111, 0);
        for (int left = 2; left >= 0; left--) {
            Check.due("dropRow", x.dropRow(), left);
            Check.due("it went", x.row(left, 0), -9);
            Check.due("many(13)", x.many(13), left);
        }
        Check.due("none left", x.dropRow(), NONE);
        x.round(0b001, 0);
        Check.due("one again", x.many(13), 1);
    }

    /** "NONE: there was none yet." */
    private static void judgeWithoutARound() {
        BurstValley x = town(1, 2);
        Check.due("none yet", x.judge(), NONE);
        x.round(0, 0);
        x.round(4, 0);
        x.round(1, 12);
        Check.due("only refused ones", x.judge(), NONE);
        x.round(1, 0);
        Check.due("one", x.judge(), 0);
        x.keep();
        x.again();
        Check.due("that one still", x.judge(), 0);
    }

    private static void becomes(BurstValley x, int i, int claim, int day) {
        x.alterRow(i, 0, claim);
        x.alterRow(i, 1, day);
    }

    /** "the first row whose CLAIM is none of them .., or stood in a row ahead, or whose DAY is another" */
    private static void judgeOfEachFault() {
        // CLAIMS 1, 2, 4 of REACHES 2, 3, 5 from REACH 0: DAYS 2, 4, 7.
        for (int row = 0; row < 3; row++) {
            int[] claims = {1, 2, 4};
            int[] days = {2, 4, 7};
            for (int claim : new int[] {0, 3, 5, -1, 16, 31, 32, 33, 34, 36, 65, MIN, MIN + 1, MAX}) {
                for (int day = 0; day < 12; day++) {
                    BurstValley x = town(1, 2, 3, 4, 5);
                    x.round(0b10110, 0);
                    becomes(x, row, claim, day);
                    Check.due("CLAIM " + claim + " is none of them", x.judge(), row + 1);
                }
            }
            for (int off : new int[] {-1, 1, -7, 1000, MIN, MAX}) {
                BurstValley x = town(1, 2, 3, 4, 5);
                x.round(0b10110, 0);
                Check.due("right", x.judge(), 0);
                x.alterRow(row, 1, days[row] + off);
                Check.due("DAY off by " + off, x.judge(), row + 1);
                x.alterRow(row, 1, days[row]);
                Check.due("right again", x.judge(), 0);
                Check.due("CLAIM", x.row(row, 0), claims[row]);
            }
        }
    }

    /** "or stood in a row ahead" */
    private static void judgeOfARowAhead() {
        for (int ahead = 0; ahead < 2; ahead++) {
            BurstValley x = town(6, 6, 6, 6);
            x.round(0b1110, 6);
            // DAYS 0, 1, 2: those of any order, as all are in one REACH.
            x.alterRow(2, 0, 1 + ahead);
            Check.due("stood in row " + ahead, x.judge(), 3);
            x.alterRow(1, 0, 3);
            Check.due("in row 0 alone", x.judge(), ahead == 0 ? 3 : 0);
        }
        BurstValley y = town(6, 6, 6, 6);
        y.round(0b1110, 6);
        becomes(y, 1, 1, 1);
        Check.due("just ahead", y.judge(), 2);
    }

    private static void judgeOfTheFirstFault() {
        BurstValley x = town(1, 2, 3);
        x.round(0b111, 0);
        x.alterRow(2, 1, 99);
        Check.due("the third", x.judge(), 3);
        x.alterRow(1, 1, 99);
        Check.due("the second", x.judge(), 2);
        x.alterRow(0, 1, 99);
        Check.due("the first", x.judge(), 1);
        BurstValley y = town(1, 2, 3);
        y.round(0b111, 0);
        becomes(y, 0, 2, 3);
        becomes(y, 1, 0, 6);
        becomes(y, 2, 1, 8);
        Check.due("another order, as long as the DAYS are right", y.judge(), 0);
        y.alterRow(1, 1, 3);
        Check.due("a DAY by the best order", y.judge(), 2);
    }

    /** "how many rows there are, if these are right, but too few" */
    private static void judgeOfTooFew() {
        BurstValley x = town(1, 2, 3);
        x.round(0b111, 0);
        for (int left = 2; left >= 0; left--) {
            x.dropRow();
            Check.due("too few", x.judge(), left + 1);
        }
        x.round(0b111, 0);
        x.dropRow();
        x.alterRow(1, 1, 0);
        Check.due("wrong ahead of too few", x.judge(), 2);
        x.alterRow(0, 1, 0);
        Check.due("wrong ahead of too few", x.judge(), 1);
    }

    /** "by the CLAIMS, REACH and DAY of the latest round() that was not refused" */
    private static void judgeByTheRoundsDayAndReach() {
        BurstValley x = town(4, 8);
        x.days(10);
        x.round(0b11, 2);
        x.days(5);
        Check.due("a refused one", x.round(0, 9), NONE);
        Check.due("a refused one", x.round(0b100, 9), BAD);
        Check.due("of its DAY", x.judge(), 0);
        Check.due("first DAY", x.row(0, 1), 12);
        x.round(0b10, 2);
        Check.due("of the latest", x.judge(), 0);
        Check.due("first DAY", x.row(0, 1), 21);
        becomes(x, 0, 0, 17);
        Check.due("not of the one ahead", x.judge(), 1);
    }

    /** "(or isn't there any more)" */
    private static void judgeOfClaimsThatAreGone() {
        BurstValley x = town(1, 2, 3);
        x.keep();
        x.thing(0, 101, 5);
        x.thing(1, 101, 5);
        x.claim(0, 3);
        x.claim(0, 4);
        x.round(0b11000, 0);
        Check.due("right", x.judge(), 0);
        x.again();
        Check.due("gone", x.judge(), 1);
        Check.due("ROWS stay", x.many(13), 2);
        x.thing(0, 101, 5);
        x.claim(0, 3);
        Check.due("the second is gone", x.judge(), 2);
        x.claim(0, 0);
        x.thing(1, 101, 5);
        x.claim(0, 4);
        Check.due("both are there", x.judge(), 0);
        x.dropRow();
        x.again();
        x.dropRow();
        Check.due("no ROW, CLAIMS gone: too few", x.judge(), 1);
    }

    /** "HOUSES as they are" */
    private static void judgeByHousesAsTheyAre() {
        BurstValley x = new BurstValley();
        x.keep();
        int[] reaches = {3, 5, 3};
        int[] due = {0, 1, 0};
        for (int i = 0; i < 3; i++) {
            x.again();
            x.house(reaches[i], 50, 0);
            x.person(1, 0, 0);
            x.thing(0, 101, 5);
            x.claim(0, 0);
            if (i == 0) {
                x.round(1, 1);
            }
            Check.due("HOUSE in REACH " + reaches[i], x.judge(), due[i]);
        }
        x.again();
        x.house(5, 50, 0);
        x.person(1, 0, 0);
        x.thing(0, 101, 5);
        x.claim(0, 0);
        x.alterRow(0, 1, 4);
        Check.due("right by the other REACH", x.judge(), 0);
    }

    /** "(0, if it is; 60 at most, else none)" */
    private static void yearsAtTheirEdges() {
        Edges.range("DEBT", 0, 99999, v -> new BurstValley().years(v, 9999, 300));
        Edges.range("INCOME", 0, 9999, v -> new BurstValley().years(0, v, 300));
        Edges.range("RATE", 0, 300, v -> new BurstValley().years(0, 9, v));
        Edges.range("DEBT", 0, 99999, v -> new BurstValley().rate(v, 9999, 60));
        Edges.range("INCOME", 0, 9999, v -> new BurstValley().rate(0, v, 60));
        Edges.range("years", 1, 60, v -> new BurstValley().rate(0, 9, v));
        BurstValley x = new BurstValley();
        Check.due("no DEBT, nothing paid", x.years(0, 0, 0), 0);
        Check.due("no DEBT", x.years(0, 9999, 300), 0);
        Check.due("a RATE of 0", x.years(1, 9999, 0), NONE);
        Check.due("no INCOME", x.years(1, 0, 300), NONE);
        Check.due("in one YEAR", x.years(1, 2, 100), 1);
    }

    /** "the DEBT grows by 5 in the hundred, up; then INCOME times RATE by 100, cut, is paid" */
    private static void debtGrowsUp() {
        BurstValley x = new BurstValley();
        int[][] cases = {{1, 2}, {19, 20}, {20, 21}, {21, 23}, {39, 41}, {40, 42}, {41, 44}, {100, 105}, {101, 107},
            {120, 126}, {121, 128}, {9000, 9450}, {9001, 9452}, {9522, 9999}};
        for (int[] c : cases) {
            Check.due(c[0] + " grows to " + c[1], x.years(c[0], c[1], 100), 1);
            Check.isTrue(c[0] + " not to less", x.years(c[0], c[1] - 1, 100) != 1);
        }
        Check.due("grows ahead of what is paid", x.years(100, 100, 100), 2);
        Check.due("5 are left, 6 then", x.years(100, 99, 100), 2);
        Check.due("1 is left, 2 then", x.years(20, 20, 100), 2);
        Check.due("20 by 104 is 20", x.years(20, 20, 104), 2);
        Check.due("20 by 105 is 21", x.years(20, 20, 105), 1);
    }

    /** "INCOME times RATE by 100, cut" */
    private static void incomeIsCut() {
        BurstValley x = new BurstValley();
        int[][] cases = {{1, 199, 0}, {1, 200, 1}, {3, 66, 0}, {3, 67, 1}, {2, 99, 0}, {2, 100, 1}, {200, 1, 1}, {199, 1, 0},
            {9999, 1, 1}, {1, 300, 1}};
        for (int[] c : cases) {
            Check.due("2 of " + c[0] + " by " + c[1], x.years(1, c[0], c[1]) == 1 ? 1 : 0, c[2]);
        }
    }

    private static void sixtyYears() {
        BurstValley x = new BurstValley();
        Check.due("60", x.years(747, 40, 100), 60);
        Check.due("61", x.years(748, 40, 100), NONE);
        Check.due("the DEBT stays as it is", x.years(100, 5, 100), NONE);
        Check.due("the most that there is", x.years(99999, 9999, 300), 4);
        Check.due("the most, never paid", x.years(99999, 0, 0), NONE);
        Check.due("60 by RATE", x.rate(747, 40, 60), 100);
        Check.isTrue("61 by more", x.rate(748, 40, 60) > 100);
    }

    /** "the least RATE by which it is 0 in n YEARS or fewer", "NONE: by none" */
    private static void leastRate() {
        BurstValley x = new BurstValley();
        Check.due("no DEBT", x.rate(0, 0, 1), 0);
        Check.due("no DEBT", x.rate(0, 9999, 60), 0);
        Check.due("just 300", x.rate(100, 35, 1), 300);
        Check.due("301 would be", x.rate(100, 34, 1), NONE);
        Check.due("1", x.rate(1, 200, 1), 1);
        Check.due("2", x.rate(1, 199, 1), 2);
        Check.due("no INCOME", x.rate(1, 0, 60), NONE);
        int[][] cases = {{1000, 100, 1}, {1000, 100, 20}, {1000, 100, 60}, {99999, 9999, 4}, {99999, 9999, 3}, {50, 7, 9},
            {31, 1, 60}, {77777, 5000, 59}};
        for (int[] c : cases) {
            int least = NONE;
            for (int rate = 0; rate <= 300 && least == NONE; rate++) {
                int years = x.years(c[0], c[1], rate);
                least = years != NONE && years <= c[2] ? rate : NONE;
            }
            Check.due("least of " + c[0], new BurstValley().rate(c[0], c[1], c[2]), least);
            x = new BurstValley();
        }
    }
}
