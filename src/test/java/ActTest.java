/** Promises 31 to 42: the act, claims, the fund. */
final class ActTest {
    private static final int BAD = BurstValley.BAD;
    private static final int FULL = BurstValley.FULL;
    private static final int NONE = BurstValley.NONE;
    private static final int STATE = BurstValley.STATE;

    public static void main(String[] args) {
        days();
        feed();
        textsThatAreRead();
        faults();
        readIsFull();
        versions();
        claim();
        proof();
        claimOf();
        conds();
        fellAndFound();
        barred();
        why();
        odd();
        fund();
        pay();
        offer();
        likest();
        Check.finish("ActTest");
    }

    /** Feeds a TEXT and reads it. */
    static int read(BurstValley x, String text) {
        for (int at = 0; at < text.length(); at += 8) {
            int n = Math.min(8, text.length() - at);
            long eight = 0;
            for (int i = n - 1; i >= 0; i--) {
                eight = eight << 8 | text.charAt(at + i);
            }
            Check.due("feed", x.feed(eight, n), at + n);
        }
        return x.read();
    }

    private static void days() {
        BurstValley x = new BurstValley();
        Check.due("below", x.days(0), BAD);
        Check.due("above", x.days(100), BAD);
        Check.due("days", x.days(1), 1);
        for (int i = 1; i <= 10; i++) {
            Check.due("days", x.days(99), 1 + 99 * i);
        }
        Check.due("beyond", x.days(9), STATE);
        Check.due("BAD ahead of STATE", x.days(100), BAD);
        Check.due("the last DAY", x.days(8), 999);
        Check.due("beyond", x.days(1), STATE);
        Check.due("many(0)", x.many(0), 999);
    }

    private static void feed() {
        BurstValley x = new BurstValley();
        Check.due("below", x.feed(0, 0), BAD);
        Check.due("above", x.feed(0, 9), BAD);
        Check.due("lowest first", x.feed('p' | 'a' << 8 | 'y' << 16, 3), 3);
        Check.due("more of eight isn't looked at", x.feed(0x3030303030303039L, 1), 4);
        Check.due("feed", x.feed(';', 1), 5);
        Check.due("pay9;", x.read(), 0);
        for (int i = 1; i <= 29; i++) {
            Check.due("feed", x.feed(0x2020202020202020L, 8), 8 * i);
        }
        Check.due("feed", x.feed(0x20202020202020L, 7), 239);
        Check.due("FULL", x.feed(0x2020, 2), FULL);
        Check.due("BAD ahead of FULL", x.feed(0, 9), BAD);
        Check.due("240", x.feed(0x20, 1), 240);
        Check.due("FULL", x.feed(0x20, 1), FULL);
        Check.due("many(14)", x.many(14), 240);
        Check.due("blanks alone", x.read(), 1);
        Check.due("used up", x.many(14), 0);
        Check.due("feed", x.feed(-1L, 8), 8);
        Check.due("bytes of 255", x.read(), -100);
    }

    private static void textsThatAreRead() {
        String[] texts = {
            "", "   ", "pay 0;", "pay 100;", "pay 007;", " pay100 ; ", "rank 9;", "late 999;", "proof 0;",
            "pay 5 if fell;", "rank 5 if found;", "bar if fell;", "bar if not not not fell;",
            "bar if worth<1or sort=2and trade>3;", "bar if kin = 999 or proofs<1 or reach > 0;",
            "bar if((((fell))));", "bar if(fell)or(found)and not(not fell);",
            "bar if (fell)and((fell)or((fell)and((fell))));",
            "late 1;late 1;late 1;late 1;late 1;late 1;late 1;late 1;late 1;  ",
        };
        for (String text : texts) {
            Check.due("read " + text, read(new BurstValley(), text), 0);
        }
    }

    private static void faults() {
        Object[][] texts = {
            {"p", 0}, {"pays 1;", 0}, {"payz 1;", 0}, {"apay 1;", 0}, {"bar;", 3}, {"pay 1a;", 5}, {"  x", 2}, {"9;", 0}, {";", 0}, {"if", 0}, {"(", 0}, {"Pay 1;", 0},
            {"pay", 3}, {"pay ", 4}, {"pay ;", 4}, {"pay 101;", 4}, {"pay 1000;", 4}, {"pay 0001;", 4}, {"pay x;", 4},
            {"pay -1;", 4}, {"pay 1", 5}, {"pay 1 ", 6}, {"pay 1 1;", 6}, {"pay 1 x;", 6}, {"pay 1 and", 6},
            {"pay 1 ;;", 7}, {"pay 1 if", 8}, {"pay 1 if;", 8}, {"pay 1 if fell", 13}, {"pay 1 if fell;x", 14},
            {"pay 1 if fell fell;", 14}, {"pay 1 if fell if", 14}, {"pay 1 if fell)", 13}, {"pay 1 if fell or;", 16},
            {"rank 10;", 5}, {"rank 9 if not", 13}, {"rank 9 if not;", 13}, {"rank 9 if ()", 11},
            {"bar", 3}, {"bar 1;", 4}, {"bar fell;", 4}, {"bar if", 6}, {"bar if 5", 7}, {"bar if fel;", 7},
            {"bar if fell<1;", 11}, {"bar if fell and;", 15}, {"bar if fell and or fell;", 16},
            {"bar if fell or and fell;", 15}, {"bar if fell not fell;", 12}, {"bar if not and fell;", 11}, {"bar if worth", 12}, {"bar if worth;", 12}, {"bar if worth!1;", 12},
            {"bar if worth<", 13}, {"bar if worth<=1;", 13}, {"bar if worth<1000;", 13}, {"bar if worth<kin;", 13},
            {"bar if worth<1 2;", 15}, {"bar if (fell", 12}, {"bar if (fell;", 12}, {"bar if (fell))", 13},
            {"bar if(((((fell)))));", 10}, {"bar if(fell)and((((fell))and(((", 30}, {"bar if (fell)(", 13},
            {"late 1000;", 5}, {"late 5 if fell;", 7}, {"proof 5 if fell;", 8}, {"proofs 5;", 0}, {"late", 4},
            {"late 1;late 1;late 1;late 1;late 1;late 1;late 1;late 1;late 1; late 1;", 64},
            {"late 1;late 1;late 1;late 1;late 1;late 1;late 1;late 1;late 1;;", 63},
            {"pay\t1;", 3}, {"pay 1;\n", 6}, {"pay 1;\u00e4", 6}, {"pay \u00001;", 4},
        };
        for (Object[] t : texts) {
            BurstValley x = new BurstValley();
            Check.due("read " + t[0], read(x, (String) t[0]), -100 - (Integer) t[1]);
            Check.due("used up", x.many(14), 0);
            Check.due("no VERSION", x.many(8), 0);
        }
    }

    private static void readIsFull() {
        BurstValley x = new BurstValley();
        for (int i = 0; i < 8; i++) {
            Check.due("read", read(x, "pay 1;"), i);
        }
        Check.due("ninth", read(x, "pay 2;"), FULL);
        Check.due("used up", x.many(14), 0);
        Check.due("a FAULT goes ahead", read(x, "pay 2"), -105);
        Check.due("many(8)", x.many(8), 8);
    }

    /** HOUSES, PERSONS and THINGS for CLAIMS: KIN and TRADE 1 to 3; worth 200, 200, 50. */
    private static BurstValley town() {
        BurstValley x = new BurstValley();
        x.house(4, 5, 300);
        x.house(6, 5, 199);
        x.person(1, 0, 1);
        x.person(2, 1, 2);
        x.person(3, 1, 3);
        x.person(1, 1, 4);
        x.thing(0, 205, 200);
        x.thing(1, 205, 200);
        x.thing(0, 305, 50);
        return x;
    }

    private static void versions() {
        BurstValley x = town();
        x.claim(0, 0);
        Check.due("an empty TEXT", x.claimOf(0, 0, 4), 0);
        Check.due("RANK without", x.claimOf(0, 0, 5), 9);
        x.days(5);
        read(x, "pay 10; rank 1;");
        x.days(5);
        read(x, "pay 20; rank 2;");
        read(x, "pay 30; rank 3;");
        int[][] days = {{0, 0, 9}, {4, 0, 9}, {5, 20, 1}, {9, 20, 1}, {10, 60, 3}, {999, 60, 3}};
        for (int[] d : days) {
            Check.due("OWED on " + d[0], x.claimOf(0, d[0], 4), d[1]);
            Check.due("RANK on " + d[0], x.claimOf(0, d[0], 5), d[2]);
        }
    }

    private static void claim() {
        BurstValley x = town();
        int[][] wrong = {{-1, 0}, {4, 0}, {0, -1}, {0, 3}};
        for (int[] w : wrong) {
            Check.due("claim refused", x.claim(w[0], w[1]), BAD);
        }
        Check.due("claim", x.claim(0, 0), 0);
        Check.due("the same", x.claim(0, 0), STATE);
        Check.due("another PERSON", x.claim(1, 0), 1);
        Check.due("another THING", x.claim(0, 1), 2);
        x.thing(0, 205, 1);
        x.thing(0, 205, 1);
        int number = 3;
        for (int p = 0; p < 4; p++) {
            for (int t = 2; t < 5 && number < 16; t++) {
                Check.due("claim", x.claim(p, t), number++);
            }
        }
        Check.due("many(9)", x.many(9), 15);
        Check.due("sixteenth", x.claim(3, 0), 15);
        Check.due("seventeenth", x.claim(3, 1), FULL);
        Check.due("STATE ahead of FULL", x.claim(0, 0), STATE);
        Check.due("BAD ahead of FULL", x.claim(4, 0), BAD);
    }

    private static void proof() {
        BurstValley x = town();
        x.claim(0, 0);
        x.claim(1, 0);
        int[][] wrong = {{-1, 1}, {2, 1}, {0, -2}, {0, 4}};
        for (int[] w : wrong) {
            Check.due("proof refused", x.proof(w[0], w[1]), BAD);
        }
        Check.due("the claimant", x.proof(0, 0), STATE);
        Check.due("of the KIN", x.proof(0, 3), STATE);
        Check.due("neighbour", x.proof(0, 1), 1);
        Check.due("again", x.proof(0, 1), 1);
        Check.due("another one", x.proof(0, 2), 2);
        Check.due("shopbook", x.proof(0, -1), 3);
        Check.due("shopbook again", x.proof(0, -1), 3);
        Check.due("of another CLAIM", x.proof(1, -1), 1);
        Check.due("many(11)", x.many(11), 6);
        for (int i = 6; i < 24; i++) {
            Check.due("shopbook again", x.proof(1, -1), 1);
        }
        Check.due("twenty-fifth", x.proof(1, -1), FULL);
        Check.due("twenty-fifth", x.proof(1, 0), FULL);
        Check.due("STATE ahead of FULL", x.proof(0, 3), STATE);
        Check.due("BAD ahead of FULL", x.proof(2, 3), BAD);
        Check.due("claimOf 2", x.claimOf(0, 0, 2), 3);
    }

    private static void claimOf() {
        BurstValley x = town();
        x.claim(3, 2);
        x.claim(2, 1);
        x.proof(0, -1);
        read(x, "pay 33; rank 4;");
        int[] due = {3, 2, 1, 0, 16, 4, NONE, 0};
        for (int what = 0; what < 8; what++) {
            Check.due("claimOf " + what, x.claimOf(0, 0, what), due[what]);
        }
        Check.due("claimOf 1 of the second", x.claimOf(1, 999, 1), 1);
        x.fund(99);
        x.offer(0, 7);
        Check.due("PAID", x.claimOf(0, 0, 6), 7);
        Check.due("OWED all the same", x.claimOf(0, 0, 4), 16);
        int[][] wrong = {{-1, 0, 0}, {2, 0, 0}, {0, -1, 0}, {0, 1000, 0}, {0, 0, -1}, {0, 0, 8}};
        for (int[] w : wrong) {
            Check.due("claimOf refused", x.claimOf(w[0], w[1], w[2]), BAD);
        }
    }

    /** The CLAIM's facts: worth 200, sort 2, trade 2, kin 2, proofs 1, reach 4. */
    private static void conds() {
        String[] hold = {
            "worth=200", "worth>199", "worth<201", "sort=2", "trade=2", "kin=2", "proofs=1", "reach=4", "not fell",
            "not found", "not not worth=200", "fell or worth=200", "worth=200 and sort=2",
            "worth=200 or fell and fell", "fell and fell or worth=200", "not fell and sort=2", "not fell or fell",
            "not (fell or found)", "(worth=200 or fell) and not (fell and worth=200)",
            "not not not fell and (((( sort = 2 ))))", "not (not (not fell and sort=2) or kin=1)",
        };
        String[] fail = {
            "worth=199", "worth>200", "worth<200", "sort=1", "trade=1", "kin=1", "proofs=0", "reach=6", "fell",
            "found", "not worth=200", "worth=200 and fell", "(worth=200 or fell) and fell", "not (sort=2 or fell)",
            "not sort=2 or fell", "worth<1 or worth>999", "fell and sort=2 or found and sort=2",
        };
        for (int i = 0; i < hold.length + fail.length; i++) {
            boolean holds = i < hold.length;
            String cond = holds ? hold[i] : fail[i - hold.length];
            BurstValley x = town();
            x.claim(1, 0);
            x.proof(0, -1);
            StringBuilder text = new StringBuilder();
            text.append("pay 50 if ").append(cond).append(";rank 3 if ").append(cond).append(";bar if not(")
                    .append(cond).append(");");
            boolean tooDeep = cond.contains("((((");
            String plain = tooDeep ? text.substring(0, text.indexOf("bar")) : text.toString();
            Check.due(plain, read(x, plain), 0);
            Check.due(cond + " OWED", x.claimOf(0, 0, 4), holds ? 100 : 0);
            Check.due(cond + " RANK", x.claimOf(0, 0, 5), holds ? 3 : 9);
            Check.due(cond + " BARRED", x.claimOf(0, 0, 3), holds ? 0 : 1);
        }
    }

    private static void fellAndFound() {
        BurstValley x = town();
        x.pond(9999);
        ValleyTest.tellTable(x, 0, 999);
        x.claim(0, 0);
        read(x, "pay 10 if fell and found; pay 20 if fell; pay 30 if found; pay 40;");
        Check.due("falls in some alone", x.claimOf(0, 0, 4), 80);
        x.word(0, 1, 0, 0);
        Check.due("falls in each", x.claimOf(0, 0, 4), 40);
        Check.due("not found", x.claimOf(0, 0, 7), 0);
        int lies = x.lies(0, 0, 0);
        Check.isTrue("goes on", lies > 4);
        x.thing(0, 299, 200);
        x.claim(0, 3);
        int rests = x.lies(3, 0, 0);
        Check.isTrue("rests within", rests >= 4 && rests < 12);
        x.find(1, rests);
        Check.due("a FIND of another SORT", x.claimOf(1, 0, 7), 0);
        x.find(2, rests);
        Check.due("found", x.claimOf(1, 0, 7), 1);
        Check.due("both", x.claimOf(1, 0, 4), 20);
        BurstValley y = town();
        y.pond(9999);
        ValleyTest.tellTable(y, 0, 999);
        y.claim(0, 0);
        y.find(2, y.lies(0, 0, 0));
        Check.due("the first FIND", y.claimOf(0, 0, 7), 1);
        x.word(0, 1, 1, 1);
        Check.due("none is POSSIBLE", x.claimOf(1, 0, 4), 80);
        x.tear(0, true);
        x.tear(1, true);
        Check.due("found in some", x.claimOf(1, 0, 4), 60);
    }

    private static void barred() {
        BurstValley x = town();
        x.days(7);
        x.claim(0, 0);
        Check.due("by no TEXT", x.claimOf(0, 7, 3), 0);
        Object[][] texts = {
            {"late 7; pay 50;", 0}, {"late 6; pay 50;", 1}, {"late 6; late 7; pay 50;", 0}, {"late 7; late 6;", 1},
            {"proof 0;", 0}, {"proof 1;", 1}, {"proof 1; proof 0;", 0}, {"proof 0; late 999; proof 1;", 1},
        };
        for (Object[] t : texts) {
            x.days(1);
            read(x, (String) t[0]);
            Check.due("BARRED by " + t[0], x.claimOf(0, x.many(0), 3), (Integer) t[1]);
        }
        Check.due("OWED, not BARRED", x.claimOf(0, 8, 4), 100);
        Check.due("OWED, BARRED", x.claimOf(0, 9, 4), 0);
        x.proof(0, -1);
        Check.due("proofs are enough", x.claimOf(0, 15, 3), 0);
        BurstValley y = town();
        y.claim(0, 0);
        read(y, "bar if kin=2; rank 5; bar if kin=1; pay 50;");
        Check.due("some bar", y.claimOf(0, 0, 3), 1);
        Check.due("OWED", y.claimOf(0, 0, 4), 0);
        Check.due("RANK all the same", y.claimOf(0, 0, 5), 5);
    }

    private static void why() {
        BurstValley x = town();
        x.claim(0, 0);
        x.claim(1, 0);
        Check.due("no LINE", x.why(0, 0, 0), NONE);
        read(x, "late 50; pay 5 if kin=2; rank 7 if kin=1; bar if kin=2; pay 7; bar if sort=2; rank 8;");
        int[][] due = {{4, 2, 5}, {1, 6, 3}};
        for (int claim = 0; claim < 2; claim++) {
            for (int what = 0; what < 3; what++) {
                Check.due("why " + what, x.why(claim, 0, what), due[claim][what]);
            }
        }
        x.days(3);
        read(x, "proof 9;");
        for (int what = 0; what < 3; what++) {
            Check.due("no LINE " + what, x.why(0, 3, what), NONE);
            Check.due("the DAY ahead " + what, x.why(0, 2, what), due[0][what]);
        }
        int[][] wrong = {{-1, 0, 0}, {2, 0, 0}, {0, -1, 0}, {0, 1000, 0}, {0, 0, -1}, {0, 0, 3}};
        for (int[] w : wrong) {
            Check.due("why refused", x.why(w[0], w[1], w[2]), BAD);
        }
    }

    private static void odd() {
        BurstValley x = town();
        Check.due("nothing CLAIMED", x.odd(0), 0);
        x.claim(1, 1);
        Check.due("200 above 199", x.odd(0), 0b10);
        x.claim(0, 0);
        x.claim(0, 2);
        x.claim(1, 0);
        Check.due("250 within 300, each once", x.odd(0), 0b10);
        Check.due("two CLAIM it", x.odd(1), 0b001);
        x.thing(0, 201, 50);
        x.claim(0, 3);
        Check.due("300 within 300", x.odd(0), 0b10);
        x.thing(0, 201, 1);
        Check.due("not CLAIMED", x.odd(0), 0b10);
        x.claim(2, 4);
        Check.due("301 above 300", x.odd(0), 0b11);
        x.claim(0, 4);
        x.claim(3, 4);
        Check.due("three CLAIM it", x.odd(1), 0b10001);
        Check.due("below", x.odd(-1), BAD);
        Check.due("above", x.odd(2), BAD);
    }

    private static void fund() {
        BurstValley x = new BurstValley();
        Check.due("below", x.fund(0), BAD);
        Check.due("above", x.fund(10000), BAD);
        for (int i = 1; i <= 10; i++) {
            Check.due("fund", x.fund(9999), 9999 * i);
        }
        Check.due("fund", x.fund(8), 99998);
        Check.due("at most", x.fund(2), 99999);
        Check.due("at most", x.fund(9999), 99999);
        Check.due("many(12)", x.many(12), 99999);
    }

    private static void pay() {
        BurstValley x = town();
        Check.due("nothing to pay", x.pay(), 0);
        x.claim(0, 0);
        x.claim(1, 1);
        x.claim(2, 2);
        x.claim(3, 0);
        Check.due("by no TEXT", x.pay(), 0);
        read(x, "pay 100 if kin<3; pay 50; rank 1 if sort=3; rank 0 if trade=2; rank 2;");
        // Sums 200, 200, 25, 200; ranks 2, 0, 1, 2.
        x.fund(224);
        Check.due("RANK 0 and what is left not enough", x.pay(), 1);
        Check.due("the second", x.claimOf(1, 0, 6), 200);
        Check.due("many(12)", x.many(12), 24);
        x.fund(1);
        Check.due("the third", x.pay(), 1);
        Check.due("PAID", x.claimOf(2, 0, 6), 25);
        x.fund(300);
        Check.due("by numbers", x.pay(), 1);
        Check.due("PAID", x.claimOf(0, 0, 6), 200);
        Check.due("waits", x.claimOf(3, 0, 6), NONE);
        x.fund(100);
        Check.due("the last", x.pay(), 1);
        Check.due("nothing more", x.pay(), 0);
        Check.due("many(10)", x.many(10), 4);
        Check.due("many(12)", x.many(12), 0);
        BurstValley y = town();
        y.claim(0, 0);
        y.claim(2, 2);
        read(y, "pay 100; rank 0 if sort=2; rank 1;");
        y.fund(60);
        Check.due("those behind it go on", y.pay(), 1);
        Check.due("the second", y.claimOf(1, 0, 6), 50);
        BurstValley z = town();
        z.claim(0, 0);
        read(z, "pay 0;");
        z.fund(60);
        Check.due("OWED 0", z.pay(), 0);
        z.days(1);
        read(z, "pay 1;");
        Check.due("OWED TODAY", z.pay(), 1);
        Check.due("PAID", z.claimOf(0, 0, 6), 2);
        z.thing(0, 205, 199);
        z.claim(0, 3);
        Check.due("1 is above 0", z.pay(), 1);
        Check.due("PAID", z.claimOf(1, 0, 6), 1);
    }

    private static void offer() {
        BurstValley x = town();
        x.claim(0, 0);
        x.claim(1, 0);
        x.fund(999);
        x.fund(1);
        int[][] wrong = {{-1, 1}, {2, 1}, {0, 0}, {0, 1000}};
        for (int[] w : wrong) {
            Check.due("offer refused", x.offer(w[0], w[1]), BAD);
        }
        Check.due("offer", x.offer(1, 999), 1);
        Check.due("PAID", x.offer(1, 1), STATE);
        Check.due("less", x.offer(0, 2), STATE);
        Check.due("offer", x.offer(0, 1), 0);
        Check.due("PAID", x.claimOf(1, 0, 6), 999);
        Check.due("many(10)", x.many(10), 2);
    }

    private static void likest() {
        BurstValley x = town();
        Check.due("below", x.likest(-1), BAD);
        Check.due("above", x.likest(3), BAD);
        x.thing(1, 201, 200);
        x.claim(0, 0);
        x.claim(1, 1);
        x.claim(2, 3);
        x.claim(2, 2);
        x.fund(9999);
        x.offer(0, 10);
        Check.due("one alone", x.likest(0), NONE);
        x.offer(3, 11);
        Check.due("of another SORT and WORTH", x.likest(0), NONE);
        x.offer(1, 10);
        Check.due("the same sum", x.likest(0), NONE);
        x.offer(2, 11);
        // 0 and 2: trade, kin, reach; 1 and 2: trade, kin.
        Check.due("first", x.likest(0), 1);
        Check.due("second", x.likest(1), 2);
        Check.due("how many differ", x.likest(2), 2);
        x.proof(1, -1);
        Check.due("both differ in 3 now: the lesser first", x.likest(0), 0);
        Check.due("second", x.likest(1), 2);
        Check.due("how many differ", x.likest(2), 3);
        x.proof(2, -1);
        Check.due("and back", x.likest(0), 1);
        x.claim(3, 0);
        x.offer(4, 12);
        // 0 and 4: trade alone.
        Check.due("a new pair", x.likest(0), 0);
        Check.due("second", x.likest(1), 4);
        Check.due("how many differ", x.likest(2), 1);
    }
}
