/** Promises 43 to 49: rounds, the company. */
final class RoundTest {
    private static final int BAD = BurstValley.BAD;
    private static final int FULL = BurstValley.FULL;
    private static final int NONE = BurstValley.NONE;

    public static void main(String[] args) {
        round();
        roundOfWhatFell();
        roundIsTheFirstByNumbers();
        rows();
        alterAndDrop();
        judge();
        judgeBehindAgain();
        years();
        rate();
        Check.finish("RoundTest");
    }

    /** One PERSON who CLAIMS a THING of a HOUSE in each of these REACHES. */
    private static BurstValley town(int... reaches) {
        BurstValley x = new BurstValley();
        for (int i = 0; i < reaches.length; i++) {
            x.house(reaches[i], 50, 0);
            x.person(1, 0, 0);
            x.thing(i, 101, 5);
            x.claim(0, i);
        }
        return x;
    }

    private static void round() {
        BurstValley x = town(1, 2, 3, 4, 5, 6, 7, 8);
        Check.due("a bit of none", x.round(256, 0), BAD);
        Check.due("a bit of none", x.round(257, 0), BAD);
        Check.due("the highest bit", x.round(Integer.MIN_VALUE, 0), BAD);
        Check.due("no such REACH", x.round(1, -1), BAD);
        Check.due("no such REACH", x.round(1, 12), BAD);
        Check.due("BAD ahead of FULL", x.round(255, 12), BAD);
        Check.due("BAD ahead of NONE", x.round(0, 12), BAD);
        Check.due("eight", x.round(255, 0), FULL);
        Check.due("none", x.round(0, 0), NONE);
        Check.due("no ROWS yet", x.many(13), 0);
        // DAYS 1, 3, 5, .. 13.
        Check.due("seven", x.round(127, 0), 49);
        Check.due("many(13)", x.many(13), 7);
        for (int i = 0; i < 7; i++) {
            Check.due("row " + i, x.row(i, 0), i);
            Check.due("row " + i, x.row(i, 1), 1 + 2 * i);
        }
        x.days(10);
        Check.due("one", x.round(128, 11), 3);
        Check.due("DAY from TODAY on", x.row(0, 1), 13);
        Check.due("many(13)", x.many(13), 1);
        Check.due("two", x.round(0b11, 2), 0 + 2);
        Check.due("first", x.row(0, 0), 1);
        Check.due("second", x.row(1, 1), 12);
    }

    private static void roundOfWhatFell() {
        BurstValley x = town(4, 6);
        Check.due("from 5: 1 and 4", x.round(0b11, 5), 1 + 4);
        Check.due("first", x.row(0, 0), 0);
        x.pond(999);
        x.reach(6, 1, 9);
        for (int way = 0; way < 3; way++) {
            ValleyTest.tellTable(x, way, 999);
        }
        Check.due("HOUSE 1 falls", x.sure(1), 2);
        Check.due("HOUSE 0 stands", x.sure(0), 0);
        Check.due("3 times 1 and 4", x.round(0b11, 5), 3 + 4);
        Check.due("first", x.row(0, 0), 1);
        ValleyTest.tellTable(x, 2, 0);
        Check.due("in some alone", x.round(0b11, 5), 1 + 4);
        Check.due("first", x.row(0, 0), 0);
        ValleyTest.tellTable(x, 2, 999);
        x.word(0, 1, 0, 0);
        x.word(0, 1, 1, 1);
        Check.due("none is POSSIBLE", x.round(0b11, 5), 1 + 4);
    }

    private static void roundIsTheFirstByNumbers() {
        BurstValley x = town(7, 3, 5, 5);
        Check.due("two in one place", x.round(0b1100, 5), 1);
        Check.due("the lesser first", x.row(0, 0), 2);
        Check.due("as far to both sides", x.round(0b0011, 5), 2 + 7);
        Check.due("the lesser first", x.row(0, 0), 0);
    }

    private static void rows() {
        BurstValley x = town(1, 2);
        Check.due("none yet", x.row(0, 0), -9);
        x.round(3, 0);
        int[][] wrong = {{-1, 0}, {2, 0}, {0, -1}, {0, 2}};
        for (int[] w : wrong) {
            Check.due("row refused", x.row(w[0], w[1]), -9);
            Check.due("alterRow refused", x.alterRow(w[0], w[1], 5), -9);
        }
        Check.due("a refused round changes nothing", x.round(0, 0), NONE);
        Check.due("row", x.row(1, 0), 1);
        Check.due("row", x.row(1, 1), 3);
    }

    private static void alterAndDrop() {
        BurstValley x = town(1, 2);
        Check.due("none yet", x.dropRow(), NONE);
        x.round(3, 0);
        Check.due("alterRow", x.alterRow(0, 0, -7), 0);
        Check.due("alterRow", x.alterRow(0, 0, Integer.MAX_VALUE), -7);
        Check.due("row", x.row(0, 0), Integer.MAX_VALUE);
        Check.due("alterRow", x.alterRow(1, 1, 88), 3);
        Check.due("row", x.row(1, 1), 88);
        Check.due("dropRow", x.dropRow(), 1);
        Check.due("row", x.row(1, 1), -9);
        Check.due("dropRow", x.dropRow(), 0);
        Check.due("dropRow", x.dropRow(), NONE);
        Check.due("many(13)", x.many(13), 0);
    }

    private static void judge() {
        BurstValley x = town(1, 2, 3);
        Check.due("none yet", x.judge(), NONE);
        x.round(0, 0);
        Check.due("a refused one is none", x.judge(), NONE);
        x.days(20);
        x.round(0b011, 0);
        Check.due("all right", x.judge(), 0);
        x.days(5);
        Check.due("by the DAY of the round", x.judge(), 0);
        Check.due("a refused one", x.round(8, 0), BAD);
        Check.due("all right still", x.judge(), 0);
        x.alterRow(1, 0, 2);
        x.alterRow(1, 1, 24);
        Check.due("none of them", x.judge(), 2);
        x.alterRow(1, 0, 0);
        x.alterRow(1, 1, 22);
        Check.due("stood in a row ahead", x.judge(), 2);
        x.alterRow(1, 0, 1);
        Check.due("another DAY", x.judge(), 2);
        x.alterRow(1, 1, 23);
        Check.due("right again", x.judge(), 0);
        x.alterRow(0, 0, 1);
        x.alterRow(0, 1, 22);
        x.alterRow(1, 0, 0);
        x.alterRow(1, 1, 24);
        Check.due("another order", x.judge(), 0);
        x.alterRow(0, 1, 21);
        Check.due("the first is wrong", x.judge(), 1);
        x.alterRow(0, 1, 22);
        x.alterRow(1, 0, -1);
        Check.due("below", x.judge(), 2);
        x.alterRow(1, 0, 33);
        Check.due("far above", x.judge(), 2);
        x.alterRow(1, 0, 32);
        Check.due("far above", x.judge(), 2);
        x.dropRow();
        Check.due("too few", x.judge(), 2);
        x.dropRow();
        Check.due("none at all", x.judge(), 1);
    }

    private static void judgeBehindAgain() {
        BurstValley x = new BurstValley();
        x.house(1, 5, 5);
        x.house(7, 5, 5);
        x.person(1, 0, 0);
        x.thing(0, 101, 5);
        x.thing(1, 101, 5);
        x.claim(0, 0);
        x.keep();
        x.claim(0, 1);
        x.round(0b11, 0);
        Check.due("all right", x.judge(), 0);
        x.again();
        Check.due("CLAIM 1 isn't there any more", x.judge(), 2);
        x.claim(0, 1);
        Check.due("it is there again", x.judge(), 0);
        BurstValley y = new BurstValley();
        y.house(1, 5, 5);
        y.person(1, 0, 0);
        y.person(2, 0, 0);
        y.thing(0, 101, 5);
        y.claim(0, 0);
        y.keep();
        y.claim(1, 0);
        y.round(0b11, 0);
        y.again();
        Check.due("of the same THING, gone too", y.judge(), 2);
    }

    private static void years() {
        BurstValley x = new BurstValley();
        int[][] wrong = {{-1, 0, 0}, {100000, 0, 0}, {0, -1, 0}, {0, 10000, 0}, {0, 0, -1}, {0, 0, 301}};
        for (int[] w : wrong) {
            Check.due("years refused", x.years(w[0], w[1], w[2]), BAD);
        }
        Check.due("no DEBT", x.years(0, 9999, 300), 0);
        Check.due("21 by 21", x.years(20, 21, 100), 1);
        Check.due("21 by 20, then 2", x.years(20, 20, 100), 2);
        Check.due("grows up: 1 to 2", x.years(1, 1, 100), NONE);
        Check.due("1 to 2 by 2", x.years(1, 1, 200), 1);
        Check.due("cut: 1 of 1.99", x.years(1, 1, 199), NONE);
        Check.due("never", x.years(99999, 0, 300), NONE);
        Check.due("the most", x.years(99999, 9999, 300), 4);
        Check.due("60 is within", x.years(747, 40, 100), 60);
        Check.due("61 is none", x.years(748, 40, 100), NONE);
    }

    private static void rate() {
        BurstValley x = new BurstValley();
        int[][] wrong = {{-1, 0, 1}, {100000, 0, 1}, {0, -1, 1}, {0, 10000, 1}, {0, 0, 0}, {0, 0, 61}};
        for (int[] w : wrong) {
            Check.due("rate refused", x.rate(w[0], w[1], w[2]), BAD);
        }
        Check.due("no DEBT", x.rate(0, 0, 60), 0);
        Check.due("105 in a YEAR", x.rate(100, 100, 1), 105);
        Check.due("just 300", x.rate(100, 35, 1), 300);
        Check.due("by none", x.rate(100, 34, 1), NONE);
        Check.due("in 60", x.rate(747, 40, 60), 100);
        Check.isTrue("in 59 more", x.rate(747, 40, 59) > 100);
        Check.due("no INCOME", x.rate(1, 0, 60), NONE);
        int[][] some = {{1000, 100, 20}, {99999, 9999, 60}, {5000, 777, 7}, {31, 9, 3}};
        for (int[] d : some) {
            int least = x.rate(d[0], d[1], d[2]);
            int years = x.years(d[0], d[1], least);
            int before = x.years(d[0], d[1], least - 1);
            Check.isTrue("in time", years >= 0 && years <= d[2]);
            Check.isTrue("not by less", before == NONE || before > d[2]);
        }
    }
}
