/** Boundary cases of promises 31 to 33: DAYS, THE TAPE, TEXTS, VERSIONS. */
final class EdgesTextTest {
    private static final int BAD = BurstValley.BAD;
    private static final int FULL = BurstValley.FULL;
    private static final int NONE = BurstValley.NONE;
    private static final int STATE = BurstValley.STATE;

    public static void main(String[] args) {
        daysToTheLastOne();
        tapeToItsEnd();
        theLowestByteFirst();
        readUsesUpTheTape();
        nothingIsLeftOfAnEarlierTape();
        anEmptyText();
        nineLines();
        numbersAsTold();
        numbersOfOneToThreeDigits();
        wordsAsLongAsTheyGo();
        blanksWhereOneLikes();
        bytesThatAreNothing();
        faultAtEachPlaceOfAPay();
        faultAtEachPlaceOfABar();
        faultAtEachPlaceOfALate();
        whereAnIfMayStand();
        fourOpenAtMost();
        manyNots();
        whatMustComeAtTheEnd();
        faultAtTheEndOfAFullTape();
        eightVersions();
        versionFromItsDayOn();
        aFaultLeavesNothingBehind();
        Check.finish("EdgesTextTest");
    }

    private static void text(String text, int due) {
        Check.due("read " + text, Edges.read(new BurstValley(), text), due);
    }

    private static void fault(String text, int place) {
        text(text, -100 - place);
    }

    private static void right(String text) {
        text(text, 0);
    }

    /** "TODAY goes n (1 to 99) DAYS on", "STATE: it would be above 999" */
    private static void daysToTheLastOne() {
        Edges.range("days", 1, 99, v -> new BurstValley().days(v));
        BurstValley x = new BurstValley();
        Check.due("DAY 0 at first", x.many(0), 0);
        for (int i = 1; i <= 10; i++) {
            Check.due("days", x.days(99), 99 * i);
        }
        Check.due("1000", x.days(10), STATE);
        Check.due("stays", x.many(0), 990);
        Check.due("1089", x.days(99), STATE);
        Check.due("999", x.days(9), 999);
        Check.due("1000", x.days(1), STATE);
        Check.due("stays", x.many(0), 999);
    }

    /** "THE TAPE takes bytes, 240 at most", "FULL: more than 240" */
    private static void tapeToItsEnd() {
        Edges.range("bytes", 1, 8, v -> new BurstValley().feed(0, v));
        for (int n = 1; n <= 8; n++) {
            BurstValley x = new BurstValley();
            int have = 0;
            while (have + n <= 240) {
                have += n;
                Check.due("feed", x.feed(0x3030303030303030L, n), have);
            }
            Check.due("more than 240", x.feed(0x3030303030303030L, n), FULL);
            Check.due("stays", x.many(14), have);
            if (have < 240) {
                Check.due("just 240", x.feed(0, 240 - have), 240);
            }
            Check.due("one more", x.feed(0, 1), FULL);
            Check.due("240", x.many(14), 240);
        }
    }

    /** "n bytes (1 to 8) come to THE TAPE, the lowest of eight first" */
    private static void theLowestByteFirst() {
        long late = 'l' | 'a' << 8 | 'e' << 24 | (long) '7' << 32 | (long) ';' << 40;
        BurstValley x = new BurstValley();
        Check.due("late 7;", x.feed(late | 't' << 16 | 0x4141L << 48, 6), 6);
        Check.due("the two highest are not looked at", x.read(), 0);
        Check.due("all eight", x.feed(late | 't' << 16 | 0x2020L << 48, 8), 8);
        Check.due("all eight", x.read(), 1);
        Check.due("a highest byte of 255", x.feed(late | 't' << 16 | 0xFF20L << 48, 8), 8);
        Check.due("is at 7", x.read(), -107);
        Check.due("below 0", x.feed(-1L, 1), 1);
        Check.due("a byte of 255", x.read(), -100);
    }

    private static void readUsesUpTheTape() {
        BurstValley x = new BurstValley();
        Check.due("right", Edges.read(x, "late 7;"), 0);
        Check.due("used up", x.many(14), 0);
        Check.due("a FAULT", Edges.read(x, "late 7"), -106);
        Check.due("used up", x.many(14), 0);
        Check.due("an empty TEXT", x.read(), 1);
        Check.due("240 again", x.feed(0, 8), 8);
        Check.due("a FAULT at 0", x.read(), -100);
        Check.due("used up", x.many(14), 0);
    }

    private static void nothingIsLeftOfAnEarlierTape() {
        String[][] pairs = {
            {"late 77;", "late 7", "-106"}, {"bar if fell;", "bar if fel", "-107"}, {"bar if fell;", "bar if fell", "-111"},
            {"late 7;late 8;", "late 7;late", "-111"}, {"bar if worth;", "bar if", "-106"}, {"late 1;;;;;;;;", "late 1", "-106"},
        };
        for (String[] pair : pairs) {
            BurstValley x = new BurstValley();
            Edges.read(x, pair[0]);
            Check.due(pair[1] + " behind " + pair[0], Edges.read(x, pair[1]), Integer.parseInt(pair[2]));
        }
        BurstValley y = new BurstValley();
        Edges.read(y, "late 1; this is not read");
        Check.due("shorter and right", Edges.read(y, "late 1;"), 0);
        Check.due("nothing", y.read(), 1);
    }

    private static void anEmptyText() {
        BurstValley x = new BurstValley();
        Check.due("no byte", x.read(), 0);
        right(" ");
        right(" ".repeat(240));
        fault(" ".repeat(239) + ";", 239);
    }

    /** "9 LINES at most", "the first WORD of the tenth LINE, too" */
    private static void nineLines() {
        for (int n = 0; n <= 9; n++) {
            right("rank 1;".repeat(n));
        }
        fault("rank 1;".repeat(10), 63);
        fault("rank 1;".repeat(11), 63);
        right("rank 1;".repeat(9) + "    ");
        fault("rank 1;".repeat(9) + "    rank 1;", 67);
        fault("rank 1;".repeat(9) + "  pay", 65);
        fault("rank 1;".repeat(9) + " x", 64);
        fault("rank 1;".repeat(9) + " 5", 64);
        fault("rank 1;".repeat(9) + ";", 63);
        fault("rank 1;".repeat(8) + "rank 1", 62);
        fault("rank 1;".repeat(8) + "rank 1 rank 1;", 63);
    }

    /** "N are NUMBERS 0 to 999 (of pay 0 to 100, of rank 0 to 9)." */
    private static void numbersAsTold() {
        String[] before = {"pay ", "rank ", "late ", "proof ", "bar if worth<", "bar if proofs=", "pay 1 if kin>"};
        int[] most = {100, 9, 999, 999, 999, 999, 999};
        for (int i = 0; i < before.length; i++) {
            right(before[i] + "0;");
            right(before[i] + most[i] + ";");
            fault(before[i] + (most[i] + 1) + ";", before[i].length());
            fault(before[i] + "9999;", before[i].length());
            fault(before[i] + "-1;", before[i].length());
            fault(before[i] + "2147483648;", before[i].length());
            fault(before[i] + "4294967296;", before[i].length());
            fault(before[i] + ";", before[i].length());
            fault(before[i] + "x;", before[i].length());
            fault(before[i] + "1.5;", before[i].length() + 1);
        }
    }

    /** "NUMBERS rows of digits (1 to 3), both as long as they go" */
    private static void numbersOfOneToThreeDigits() {
        for (String n : new String[] {"0", "00", "000", "7", "07", "007"}) {
            right("rank " + n + ";");
            right("pay " + n + ";");
            right("bar if sort=" + n + ";");
        }
        for (String n : new String[] {"0000", "0007", "00000", "000000000000000000007"}) {
            fault("rank " + n + ";", 5);
            fault("late " + n + ";", 5);
            fault("bar if sort=" + n + ";", 12);
        }
        right("pay 100;");
        right("pay 099;");
        fault("pay 0100;", 4);
        BurstValley x = claimed();
        Edges.read(x, "pay 050; rank 007;");
        Check.due("OWED", x.claimOf(0, 0, 4), 100);
        Check.due("RANK", x.claimOf(0, 0, 5), 7);
    }

    /** "WORDS are rows of letters a to z .. as long as they go" */
    private static void wordsAsLongAsTheyGo() {
        fault("pays 1;", 0);
        fault("pa 1;", 0);
        fault("payrank 1;", 0);
        fault("pa y 1;", 0);
        fault("latex 1;", 0);
        fault("proofs 1;", 0);
        fault("late 1 ; barif fell;", 9);
        fault("bar iff fell;", 4);
        fault("bar iffell;", 4);
        fault("bar if fells;", 7);
        fault("bar if foundfell;", 7);
        fault("bar if notfell;", 7);
        fault("bar if proof<1;", 7);
        fault("bar if reac<1;", 7);
        fault("bar if fell orfell;", 12);
        fault("bar if fell andfell;", 12);
        fault("bar if fell o r fell;", 12);
        fault("Pay 1;", 0);
        fault("pAy 1;", 0);
        fault("bar if Fell;", 7);
        right("bar if fell and found or worth<1 and sort<1 or trade<1 and kin<1 or proofs<1 and reach<1;");
    }

    /** "blanks (32) part them, and stand elsewhere as one likes" */
    private static void blanksWhereOneLikes() {
        right("   pay   1   if   (   not   fell   )   and   worth   <   1   ;   ");
        right("pay 1 if(not fell)and worth<1;rank 1;bar if(fell);");
        right("late 1 ;late 1;  late 1;");
        right("proof 5 ; bar if sort = 3 ;");
        fault("late 1 0;", 7);
        fault("bar if worth < 1 0;", 17);
        right("bar if worth<1or sort>2and kin=3;");
    }

    private static void bytesThatAreNothing() {
        for (int b = 0; b < 256; b++) {
            char c = (char) b;
            boolean isFine = c == ' ' || c == ';';
            BurstValley x = new BurstValley();
            String text = "late 1" + c + ";";
            boolean isDigit = c >= '0' && c <= '9';
            int due = c == ';' ? -107 : c == ' ' || isDigit ? 0 : -106;
            Check.due("byte " + b + " behind a NUMBER", Edges.read(x, text), due);
            BurstValley y = new BurstValley();
            Check.due("byte " + b + " first of all", Edges.read(y, c + "late 1;"), c == ' ' ? 0 : -100);
            BurstValley z = new BurstValley();
            boolean isLetter = c >= 'a' && c <= 'z';
            int afterWord = isFine && c == ' ' || isDigit ? 0 : isLetter ? -100 : -104;
            Check.due("byte " + b + " behind a WORD", Edges.read(z, "late" + c + "1;"), afterWord);
        }
    }

    /** "FAULT: the place (from 0) of the first byte of the first WORD, NUMBER or other byte that can't stand there" */
    private static void faultAtEachPlaceOfAPay() {
        String[] tokens = {"pay", "5", "if", "not", "worth", "<", "7", "and", "fell", "or", "(", "found", ")", ";"};
        faultsWith(tokens, "rank", new int[] {1, 2, 3, 4, 5, 6, 7, 8, 9, 10, 11, 12, 13});
        faultsWith(tokens, ")", new int[] {0, 1, 2, 3, 4, 5, 6, 7, 8, 9, 10, 11, 13, 14});
        faultsWith(tokens, "999", new int[] {0, 1, 2, 3, 4, 5, 7, 8, 9, 10, 11, 12, 13, 14});
        faultsWith(tokens, "<", new int[] {0, 1, 2, 3, 4, 6, 7, 8, 9, 10, 11, 12, 13, 14});
    }

    private static void faultAtEachPlaceOfABar() {
        String[] tokens = {"bar", "if", "(", "sort", "=", "3", "or", "kin", ">", "1", ")", "and", "not", "found", ";"};
        faultsWith(tokens, "pay", new int[] {1, 2, 3, 4, 5, 6, 7, 8, 9, 10, 11, 12, 13, 14});
        faultsWith(tokens, "if", new int[] {0, 2, 3, 4, 5, 6, 7, 8, 9, 10, 11, 12, 13, 14, 15});
        faultsWith(tokens, "or", new int[] {0, 1, 2, 3, 4, 5, 7, 8, 9, 12, 13, 15});
        faultsWith(tokens, ";", new int[] {0, 1, 2, 3, 4, 5, 6, 7, 8, 9, 10, 12, 13, 15});
    }

    private static void faultAtEachPlaceOfALate() {
        String[] tokens = {"late", "999", ";", "proof", "000", ";"};
        faultsWith(tokens, "if", new int[] {0, 1, 2, 3, 4, 5, 6});
        faultsWith(tokens, "(", new int[] {0, 1, 2, 3, 4, 5, 6});
        faultsWith(tokens, "5", new int[] {0, 2, 3, 5, 6});
    }

    /** What is put ahead of one of these tokens can't stand there, so that its place is the FAULT. */
    private static void faultsWith(String[] tokens, String put, int[] places) {
        for (int place : places) {
            StringBuilder text = new StringBuilder();
            int due = 0;
            for (int i = 0; i <= tokens.length; i++) {
                if (i == place) {
                    due = text.length();
                    text.append(put).append(' ');
                }
                if (i < tokens.length) {
                    text.append(tokens[i]).append(' ');
                }
            }
            fault(text.toString(), due);
        }
    }

    /** "pay N [ if COND ] | rank N [ if COND ] | bar if COND | late N | proof N" */
    private static void whereAnIfMayStand() {
        right("pay 5;");
        right("pay 5 if fell;");
        right("rank 5;");
        right("rank 5 if fell;");
        right("bar if fell;");
        fault("bar;", 3);
        fault("bar 5 if fell;", 4);
        right("late 5;");
        fault("late 5 if fell;", 7);
        right("proof 5;");
        fault("proof 5 if fell;", 8);
        fault("pay if fell;", 4);
        fault("rank if fell;", 5);
        fault("pay 5 if fell if found;", 14);
        fault("bar if if fell;", 7);
        fault("bar if ;", 7);
        fault("if fell;", 0);
    }

    /** "At most 4 "(" are open within one another." */
    private static void fourOpenAtMost() {
        for (int n = 1; n <= 4; n++) {
            right("bar if " + "(".repeat(n) + "fell" + ")".repeat(n) + ";");
            fault("bar if " + "(".repeat(n) + "fell" + ")".repeat(n - 1) + ";", 11 + n + n - 1);
            fault("bar if " + "(".repeat(n) + "fell" + ")".repeat(n + 1) + ";", 11 + n + n);
        }
        fault("bar if (((((fell)))));", 11);
        fault("bar if ((((not(fell)))));", 14);
        fault("bar if ((((fell and (fell)))));", 20);
        fault("bar if ((((((", 11);
        right("bar if ((((fell)))) and ((((fell)))) or not ((((fell))));");
        right("bar if (((fell) and (fell)) and ((fell) or ((fell)))) and (fell);");
        fault("bar if (((fell) and (fell)) and (((((fell)))));", 35);
        right("bar if ((((fell))));" + "bar if ((((fell))));");
    }

    /** "{ not }": none or more */
    private static void manyNots() {
        for (int n = 0; n <= 50; n++) {
            BurstValley x = claimed();
            String text = "pay 9 if " + "not ".repeat(n) + "fell;";
            Check.due(n + " nots", Edges.read(x, text), 0);
            Check.due(n + " nots hold", x.why(0, 0, 0), n % 2 == 1 ? 0 : NONE);
        }
        right("bar if " + "not ".repeat(57) + "fell;");
        right("bar if not(not(not(not fell)));");
        fault("bar if not;", 10);
        fault("bar if not not;", 14);
        fault("bar if not fell not;", 16);
        fault("bar if not or fell;", 11);
        fault("bar if not 5;", 11);
    }

    /** "or the end (how many bytes there are), if more must come" */
    private static void whatMustComeAtTheEnd() {
        String whole = "pay 1 if not ( worth < 5 and fell or found ) ; ";
        for (int n = 0; n < whole.length(); n++) {
            String text = whole.substring(0, n);
            boolean cutWord = n > 0 && Character.isLetter(whole.charAt(n)) && Character.isLetter(whole.charAt(n - 1));
            boolean done = n == 0 || text.contains(";");
            int start = n;
            while (cutWord && start > 0 && Character.isLetter(whole.charAt(start - 1))) {
                start--;
            }
            text(text, done ? 0 : -100 - start);
        }
        fault("bar", 3);
        fault("bar ", 4);
        fault("late", 4);
        fault("late    ", 8);
        fault("proof 5", 7);
        fault("proof 5      ", 13);
        fault("rank 5 if", 9);
        fault("rank 5;rank", 11);
    }

    private static void faultAtTheEndOfAFullTape() {
        StringBuilder text = new StringBuilder("bar if fell");
        while (text.length() + 8 <= 240) {
            text.append(" or fell");
        }
        while (text.length() < 240) {
            text.append(' ');
        }
        fault(text.toString(), 240);
        text.setCharAt(239, ';');
        right(text.toString());
        text.setCharAt(239, '5');
        fault(text.toString(), 239);
        fault("pay 1;" + " ".repeat(231) + "pay", 240);
        fault("pay 1;" + " ".repeat(233) + "x", 239);
        fault("late 12;" + " ".repeat(227) + "late1", 240);
    }

    /** "VERSIONS, 8 at most, numbered as they come", "FULL (behind a FAULT)" */
    private static void eightVersions() {
        BurstValley x = claimed();
        for (int i = 0; i < 8; i++) {
            Check.due("a FAULT is no VERSION", Edges.read(x, "pay;"), -103);
            Check.due("VERSION", Edges.read(x, "pay " + i + ";"), i);
            Check.due("many(8)", x.many(8), i + 1);
        }
        Check.due("the ninth", Edges.read(x, "pay 100;"), FULL);
        Check.due("used up", x.many(14), 0);
        Check.due("the ninth, empty", x.read(), FULL);
        Check.due("the ninth with a FAULT", Edges.read(x, "pay 100"), -107);
        Check.due("many(8)", x.many(8), 8);
        Check.due("THE ACT is the eighth", x.claimOf(0, 0, 4), 14);
    }

    /** HOUSE 0 in REACH 4; PERSON 0 of KIN 1 CLAIMS THING 0, worth 200, on DAY 0. */
    private static BurstValley claimed() {
        BurstValley x = new BurstValley();
        x.house(4, 5, 300);
        x.person(1, 0, 1);
        x.person(2, 0, 2);
        x.thing(0, 205, 200);
        x.claim(0, 0);
        return x;
    }

    /** "on a DAY THE ACT is the latest that was read on it or ahead (none: an empty TEXT)" */
    private static void versionFromItsDayOn() {
        BurstValley x = claimed();
        for (int day = 0; day < 1000; day += 333) {
            Check.due("an empty TEXT on " + day, x.claimOf(0, day, 4), 0);
            Check.due("RANK by it", x.claimOf(0, day, 5), 9);
            Check.due("BARRED by it", x.claimOf(0, day, 3), 0);
        }
        x.days(1);
        Edges.read(x, "pay 10; rank 1;");
        x.days(99);
        Edges.read(x, "pay 20; rank 2;");
        Edges.read(x, "rank 3;");
        for (int i = 0; i < 9; i++) {
            x.days(99);
        }
        x.days(8);
        Edges.read(x, "pay 40; rank 4;");
        int[][] due = {{0, 0, 9}, {1, 20, 1}, {2, 20, 1}, {99, 20, 1}, {100, 0, 3}, {101, 0, 3}, {998, 0, 3}, {999, 80, 4}};
        for (int[] d : due) {
            Check.due("OWED on " + d[0], x.claimOf(0, d[0], 4), d[1]);
            Check.due("RANK on " + d[0], x.claimOf(0, d[0], 5), d[2]);
            Check.due("pay LINE on " + d[0], x.why(0, d[0], 0), d[1] > 0 ? 0 : NONE);
        }
        Check.due("no DAY 1000", x.claimOf(0, 1000, 4), BAD);
        Check.due("TODAY", x.many(0), 999);
    }

    private static void aFaultLeavesNothingBehind() {
        BurstValley x = claimed();
        Edges.read(x, "pay 10 if kin=9; rank 5 if kin=9; bar if kin=1;;");
        Check.due("no VERSION", x.claimOf(0, 0, 3), 0);
        Check.due("read", Edges.read(x, "pay 50; rank 3;"), 0);
        Check.due("no COND of the other TEXT", x.claimOf(0, 0, 4), 100);
        Check.due("no COND of the other TEXT", x.claimOf(0, 0, 5), 3);
        Check.due("no bar of it", x.claimOf(0, 0, 3), 0);
        for (int i = 1; i < 8; i++) {
            String cond = "fell or ".repeat(12);
            Check.due("a long one with a FAULT", Edges.read(x, "pay 1 if " + cond + "fell fell;"), -109 - 12 * 8 - 5);
            Check.due("a long one", Edges.read(x, "pay 77 if " + cond + "kin=2; pay " + i + " if " + cond + "kin=1;"), i);
            Check.due("OWED by it", x.claimOf(0, 0, 4), 2 * i);
        }
    }
}
