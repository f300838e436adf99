import java.lang.reflect.Method;
import java.util.ArrayList;
import java.util.Arrays;
import java.util.HashMap;
import java.util.List;
import java.util.Map;
import java.util.Random;

/** All promises: long runs of drawn calls, each answer held against PlainModel's. */
final class ModelTest {
    private static final Map<String, Method> REAL = methods(BurstValley.class);
    private static final Map<String, Method> PLAIN = methods(PlainModel.class);
    private static final String[] NAMES = {
        "reach", "pond", "gate", "table", "house", "depth", "falls", "sooner", "clock", "mark", "word", "tear",
        "side", "doubt", "lets", "possible", "span", "hangs", "sure", "could", "told", "person", "safe", "name",
        "list", "thing", "lies", "find", "whose", "days", "feed", "read", "claim", "proof", "claimOf", "why", "odd",
        "fund", "pay", "offer", "likest", "round", "row", "alterRow", "dropRow", "judge", "years", "rate", "sheet",
        "put", "item", "shelf", "taken", "deal", "trace", "many", "keep", "again",
    };

    private final Random random;
    private final BurstValley real = new BurstValley();
    private final PlainModel plain = new PlainModel();
    private final List<String> log = new ArrayList<>();
    private final int[] weights = new int[NAMES.length];
    private final int wild;
    /** The NIGHT that most of what is seen agrees with. */
    private final int trueWay;
    private final int trueStart;
    private final Map<String, Integer> seen;

    private ModelTest(long seed, Map<String, Integer> seen) {
        random = new Random(seed);
        this.seen = seen;
        wild = random.nextInt(3) == 0 ? 12 : 60;
        for (int i = 0; i < weights.length; i++) {
            weights[i] = random.nextInt(10) == 0 ? 15 : random.nextInt(4);
        }
        if (random.nextInt(3) > 0) {
            settle();
        }
        trueWay = random.nextInt(3);
        trueStart = random.nextInt(30);
    }

    /** A run in which the valley mostly stays as it is, so that some NIGHTS stay POSSIBLE. */
    private void settle() {
        List<String> rare = List.of("pond", "reach", "gate", "table", "house", "again", "clock", "mark", "word");
        for (int i = 0; i < weights.length; i++) {
            weights[i] = rare.contains(NAMES[i]) ? (random.nextInt(6) == 0 ? 1 : 0) : weights[i];
        }
    }

    private static Map<String, Method> methods(Class<?> type) {
        Map<String, Method> all = new HashMap<>();
        for (Method m : type.getDeclaredMethods()) {
            if (!java.lang.reflect.Modifier.isPrivate(m.getModifiers()) && m.getReturnType() == int.class) {
                m.setAccessible(true);
                all.put(m.getName(), m);
            }
        }
        return all;
    }

    /** From one number to another one; now and then a little or far outside. */
    private int r(int from, int to) {
        if (random.nextInt(wild) == 0) {
            int[] outside = {from - 1, to + 1, from - 2, to + 2, Integer.MIN_VALUE, Integer.MAX_VALUE, -1, 1000, 16};
            return outside[random.nextInt(outside.length)];
        }
        if (random.nextInt(12) == 0) {
            return random.nextBoolean() ? from : to;
        }
        return to <= from ? from : (int) (from + (long) (random.nextDouble() * ((long) to - from + 1)));
    }

    /** One of so many that there are (many() tells). */
    private int of(int what) {
        return r(0, Math.max(0, plain.many(what) - 1));
    }

    private void call(String name, Object... args) {
        plain.newCall();
        int got = ask(REAL, name, real, args);
        int want = ask(PLAIN, name, plain, args);
        log.add(name + Arrays.toString(args) + " " + want);
        seen.merge(name + (want < 0 && want > -100 ? " " + want : " ok"), 1, Integer::sum);
        if (got != want) {
            for (String line : log) {
                System.out.println(line);
            }
            System.out.println("answered " + got + ", due is " + want);
            System.exit(1);
        }
    }

    private static int ask(Map<String, Method> methods, String name, Object on, Object... args) {
        try {
            return (Integer) methods.get(name).invoke(on, args);
        } catch (ReflectiveOperationException e) {
            throw new IllegalStateException(name + Arrays.toString(args), e);
        }
    }

    private void run() {
        if (random.nextInt(8) != 0) {
            setUp();
        }
        int total = 0;
        for (int w : weights) {
            total += w;
        }
        while (log.size() < 500) {
            int at = random.nextInt(total);
            int i = 0;
            while (at >= weights[i]) {
                at -= weights[i++];
            }
            draw(NAMES[i]);
        }
    }

    private void setUp() {
        call("pond", r(500, 9999));
        for (int i = 1 + random.nextInt(4); i > 0; i--) {
            tellTable();
        }
        List<String> names = List.of("house", "person", "name", "thing", "find", "claim", "word", "clock", "mark", "shelf");
        int[] most = {9, 9, 9, 12, 9, 16, 2, 2, 2, 4};
        for (int k = 0; k < most.length; k++) {
            for (int i = random.nextInt(most[k] + 1); i > 0; i--) {
                if (names.get(k).equals("claim") && random.nextInt(4) == 0) {
                    call("days", r(1, 2));
                }
                draw(names.get(k));
            }
        }
        if (random.nextBoolean()) {
            call("fund", r(500, 9999));
        }
        for (int i = random.nextInt(4); i > 0; i--) {
            tellText();
        }
    }

    private void tellTable() {
        int sheet = random.nextInt(4);
        int length = r(1, 8);
        call("sheet", sheet, random.nextInt(15) == 0 ? r(0, 4) : 1, length);
        for (int i = 0; i < length && i < 8; i++) {
            call("put", sheet, i, random.nextInt(20) == 0 ? r(-5, 1100) : random.nextInt(500));
        }
        call("table", r(0, 2), sheet);
    }

    private void draw(String name) {
        switch (name) {
            case "reach": call(name, r(0, 11), random.nextBoolean() ? r(1, 50) : r(1, 10), r(2, 9)); break;
            case "pond": call(name, r(0, 9999)); break;
            case "gate": call(name, random.nextInt(3) == 0 ? 0 : r(0, 99), r(0, 179)); break;
            case "table":
                if (random.nextBoolean()) {
                    tellTable();
                } else {
                    call(name, r(0, 2), r(0, 3));
                }
                break;
            case "house": call(name, random.nextInt(3) == 0 ? r(0, 11) : r(0, 4), r(1, random.nextBoolean() ? 15 : 99), r(0, 999)); break;
            case "depth": call(name, r(0, 2), r(0, 29), r(0, 11), r(0, 179)); break;
            case "falls": call(name, r(0, 2), r(0, 29), of(1)); break;
            case "sooner": call(name, r(0, 2), r(0, 29), r(0, 99), r(0, 179)); break;
            case "clock": drawClock(); break;
            case "mark": drawMark(); break;
            case "word": drawWord(); break;
            case "tear": call(name, of(2), random.nextInt(3) > 0); break;
            case "side": call(name, r(0, 3), r(0, 2)); break;
            case "doubt": call(name, r(0, 2), random.nextBoolean()); break;
            case "lets": call(name, of(2), r(0, 2), r(0, 29)); break;
            case "possible": call(name, r(-1, 2)); break;
            case "span": call(name, r(0, 2), random.nextBoolean()); break;
            case "hangs": call(name, of(2)); break;
            case "sure": call(name, of(1)); break;
            case "could": call(name, r(0, 2), r(0, 29), r(0, random.nextBoolean() ? 40 : 179), r(0, random.nextBoolean() ? 2 : 11), r(100, 999), r(0, 30)); break;
            case "told": call(name, r(0, random.nextBoolean() ? 40 : 179), r(0, random.nextBoolean() ? 2 : 11), r(100, 999), r(0, 30)); break;
            default: drawRest(name); break;
        }
    }

    private void drawClock() {
        int reach = r(0, random.nextBoolean() ? 3 : 11);
        int height = r(1, random.nextInt(4) > 0 ? 9 : 99);
        int minute = r(0, random.nextBoolean() ? 40 : 179);
        int give = r(0, 9);
        int fast = r(-9, 9);
        if (random.nextInt(15) > 0) {
            minute = 0;
            while (minute < 179 && plain.depth(trueWay, trueStart, reach, minute) < height) {
                minute++;
            }
            minute = Math.max(0, Math.min(179, minute + Math.max(-9, Math.min(9, fast))));
            give = random.nextBoolean() ? 9 : give;
        }
        call("clock", reach, height, minute, random.nextInt(19) == 0 ? r(0, 999) : give * 100 + fast + 9);
    }

    private void drawMark() {
        int reach = r(0, 11);
        int from = random.nextBoolean() ? 0 : r(0, 60);
        if (random.nextInt(15) > 0) {
            int greatest = 0;
            for (int m = 0; m < 180; m++) {
                greatest = Math.max(greatest, plain.depth(trueWay, trueStart, reach, m));
            }
            from = r(0, greatest);
            call("mark", reach, from, random.nextBoolean() ? greatest : r(Math.max(greatest, from), 999));
        } else {
            call("mark", reach, from, random.nextInt(6) == 0 ? r(0, 999) : r(from, 999));
        }
    }

    private void drawWord() {
        if (random.nextInt(15) > 0) {
            call("word", r(0, 3), 1 << trueWay | random.nextInt(8), r(0, trueStart), r(trueStart, 29));
        } else {
            int from = r(0, 29);
            call("word", r(0, 3), r(1, 7), from, random.nextInt(6) == 0 ? r(0, 29) : r(from, 29));
        }
    }

    private void drawRest(String name) {
        switch (name) {
            case "person": call(name, r(0, random.nextBoolean() ? 2 : 9), of(1), r(0, 5)); break;
            case "safe": call(name, of(4), random.nextBoolean()); break;
            case "name": call(name, r(0, random.nextBoolean() ? 2 : 9), random.nextBoolean() ? -1 : of(1)); break;
            case "list": call(name, random.nextInt(3) == 0 ? r(-2, -1) : of(4)); break;
            case "thing": call(name, of(1), r(0, random.nextBoolean() ? 1 : 7) * 100 + r(1, random.nextBoolean() ? 9 : 99), random.nextBoolean() ? 100 * r(1, 3) : r(1, 999)); break;
            case "lies": call(name, of(6), r(0, 2), r(0, 29)); break;
            case "find": call(name, r(0, random.nextBoolean() ? 1 : 7), r(0, 11)); break;
            case "whose": call(name, of(7)); break;
            case "days": call(name, random.nextInt(3) > 0 ? r(1, 9) : r(1, 99)); break;
            case "feed": call(name, random.nextLong(), r(1, 8)); break;
            case "read":
                if (random.nextInt(4) == 0) {
                    call(name);
                } else {
                    tellText();
                }
                break;
            case "claim": call(name, of(4), of(6)); break;
            case "proof": call(name, of(9), random.nextInt(3) == 0 ? -1 : of(4)); break;
            case "claimOf": call(name, of(9), random.nextBoolean() ? plain.many(0) : r(0, 999), r(0, 7)); break;
            case "why": call(name, of(9), random.nextBoolean() ? plain.many(0) : r(0, 999), r(0, 2)); break;
            case "odd": call(name, r(0, 1)); break;
            case "fund": call(name, random.nextInt(5) == 0 ? r(1, 9999) : r(1, 300)); break;
            case "pay": call(name); break;
            case "offer": call(name, of(9), r(1, random.nextBoolean() ? 9 : 999)); break;
            case "likest": call(name, r(0, 2)); break;
            case "round": drawRound(); break;
            case "row": call(name, of(13), r(0, 1)); break;
            case "alterRow": drawAlter(); break;
            case "dropRow": call(name); break;
            case "judge": call(name); break;
            case "years": call(name, r(0, random.nextBoolean() ? 3000 : 99999), r(0, 9999), r(0, 300)); break;
            case "rate": call(name, r(0, random.nextBoolean() ? 3000 : 99999), r(0, random.nextBoolean() ? 500 : 9999), r(1, 60)); break;
            default: drawHost(name); break;
        }
    }

    private void drawRound() {
        int all = (1 << plain.many(9)) - 1;
        int bits = all & random.nextInt();
        int most = random.nextInt(8) == 0 ? 12 : random.nextInt(8) == 0 ? 7 : 5;
        while (Integer.bitCount(bits) > most) {
            bits &= bits - 1;
        }
        call("round", random.nextInt(15) == 0 ? random.nextInt() >>> random.nextInt(32) : bits, r(0, 11));
        if (random.nextBoolean()) {
            call("judge");
            for (int i = 0; i < plain.many(13); i++) {
                call("row", i, 0);
                call("row", i, 1);
            }
        }
    }

    private void drawAlter() {
        int i = of(13);
        int what = r(0, 1);
        int v = random.nextInt(3) == 0 ? r(0, 99) : random.nextBoolean() ? plain.row(i, what) : r(0, 15);
        call("alterRow", i, what, v);
        call("judge");
    }

    private void drawHost(String name) {
        switch (name) {
            case "sheet": call(name, r(0, 3), r(-1, 4), r(0, random.nextBoolean() ? 6 : 40)); break;
            case "put": call(name, r(0, 3), r(0, random.nextBoolean() ? 5 : 39), random.nextBoolean() ? random.nextInt() : r(-2, 300)); break;
            case "item": call(name, r(0, 3), r(0, 4), r(0, 5)); break;
            case "shelf": drawShelf(); break;
            case "taken": call(name, r(0, 3), random.nextInt(4) == 0 ? r(0, 14) : random.nextBoolean() ? r(0, 6) : r(10, 14)); break;
            case "deal":
                call(name, r(0, 3), r(0, 3), random.nextBoolean() ? random.nextInt() : r(-50, 50));
                call("many", 15);
                call("trace", of(15));
                break;
            case "trace": call(name, of(15)); break;
            case "many": call(name, r(0, 16)); break;
            case "keep":
            case "again":
                if (random.nextBoolean()) {
                    call(name);
                }
                break;
            default: throw new IllegalStateException(name);
        }
    }

    private void drawShelf() {
        int what = random.nextInt(3) == 0 ? r(0, 3) : r(0, 2);
        call("shelf", r(0, 3), what, what == 0 ? of(2) : what == 1 ? of(9) : r(0, 3));
    }

    // ---- texts

    private void tellText() {
        StringBuilder text = new StringBuilder();
        int lines = random.nextInt(8) == 0 ? 8 + random.nextInt(4) : random.nextInt(7);
        for (int i = 0; i < lines; i++) {
            text.append(drawLine(lines > 6)).append(random.nextBoolean() ? ";" : " ; ");
        }
        if (random.nextInt(3) == 0 && text.length() > 0) {
            spoil(text);
        }
        for (int at = 0; at < text.length(); ) {
            int n = Math.min(text.length() - at, random.nextInt(4) == 0 ? 1 + random.nextInt(8) : 8);
            long eight = random.nextBoolean() ? 0 : random.nextLong() << 8 * (n - 1) << 8;
            for (int i = 0; i < n; i++) {
                eight |= (long) (text.charAt(at + i) & 255) << 8 * i;
            }
            call("feed", eight, n);
            at += n;
        }
        call("read");
    }

    private void spoil(StringBuilder text) {
        int at = random.nextInt(text.length());
        String signs = "abpnot019 ;()<=>ABC\n\t\0!" + (char) 228 + (char) 160;
        switch (random.nextInt(5)) {
            case 0: text.setLength(at); break;
            case 1: text.deleteCharAt(at); break;
            case 2: text.setCharAt(at, signs.charAt(random.nextInt(signs.length()))); break;
            case 3: text.insert(at, signs.charAt(random.nextInt(signs.length()))); break;
            default: text.insert(at, drawWordOfText()); break;
        }
    }

    private String drawWordOfText() {
        String[] words = {"pay", "rank", "bar", "late", "proof", "if", "or", "and", "not", "fell", "found", "worth",
            "sort", "trade", "kin", "proofs", "reach", "(", ")", ";", "<", "100", "101", "9", "10", "1000", "0000"};
        return " " + words[random.nextInt(words.length)] + " ";
    }

    private String drawLine(boolean isShort) {
        String cond = isShort ? "" : drawCond(0);
        String wanted = random.nextInt(3) == 0 || isShort ? "" : " if " + cond;
        switch (random.nextInt(isShort ? 4 : 8)) {
            case 0: return "late " + drawLate();
            case 1: return "proof " + number(random.nextBoolean() ? 2 : 999);
            case 2: return "pay" + (random.nextBoolean() ? " " : "") + number(100) + wanted;
            case 3: return "rank " + number(9) + wanted;
            case 4: return " bar  if " + cond;
            case 5: return "rank " + number(9) + wanted;
            default: return "pay " + number(100) + wanted;
        }
    }

    /** Mostly a DAY or some ahead of TODAY, so that of the CLAIMS that are there some are made above it. */
    private String drawLate() {
        if (random.nextInt(4) == 0) {
            return number(random.nextBoolean() ? 50 : 999);
        }
        return "" + Math.max(0, Math.min(999, plain.many(0) + 1 - random.nextInt(6)));
    }

    private String number(int most) {
        int n = random.nextInt(80) == 0 ? most + 1 : random.nextInt(most + 1);
        return random.nextInt(40) == 0 ? "0" + n : random.nextInt(40) == 0 ? "00" + n : "" + n;
    }

    private String drawCond(int open) {
        StringBuilder text = new StringBuilder(drawOne(open));
        while (random.nextInt(3) == 0) {
            text.append(random.nextBoolean() ? " or " : " and ").append(drawOne(open));
        }
        return text.toString();
    }

    private String drawOne(int open) {
        StringBuilder text = new StringBuilder();
        while (random.nextInt(4) == 0) {
            text.append("not ");
        }
        int kind = random.nextInt(10);
        if (kind < 3 && open < 6 && random.nextInt(1 + open) == 0) {
            return text.append(random.nextBoolean() ? "(" : " ( ").append(drawCond(open + 1)).append(")").toString();
        }
        if (kind == 3 || kind == 4) {
            return text.append(kind == 3 ? "fell" : "found").toString();
        }
        String[] facts = {"worth", "sort", "trade", "kin", "proofs", "reach"};
        int fact = random.nextInt(6);
        int most = fact == 0 ? 999 : fact == 4 ? 3 : 6;
        String sign = "<=>".substring(random.nextInt(3)).substring(0, 1);
        return text.append(facts[fact]).append(random.nextBoolean() ? sign : " " + sign + " ")
                .append(fact == 0 && random.nextBoolean() ? "200" : number(most)).toString();
    }

    public static void main(String[] args) {
        int runs = args.length > 0 ? Integer.parseInt(args[0]) : 300;
        long first = args.length > 1 ? Long.parseLong(args[1]) : 1;
        Map<String, Integer> seen = new java.util.TreeMap<>();
        int calls = 0;
        for (long seed = first; seed < first + runs; seed++) {
            ModelTest test = new ModelTest(seed, seen);
            test.run();
            calls += test.log.size();
        }
        if (args.length > 2) {
            System.out.println(seen);
        }
        System.out.println("ModelTest: " + runs + " runs, " + calls + " answers as due");
    }
}
