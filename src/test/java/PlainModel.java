import java.util.ArrayList;
import java.util.List;

/**
 * The document told a second time, as slowly and as plainly as can be: whole histories of NIGHTS,
 * all orders of a ROUND, trees for CONDs, real classes for KINDS, real rows for SHEETS. ModelTest
 * holds the answers of BurstValley against it.
 */
final class PlainModel {
    static final int BAD = -1, FULL = -2, NONE = -3, STATE = -4;

    // ---- what is kept

    record House(int reach, int strength, int room) { }

    record Row(int kind, int place, int height, int a, int b, int c) { }

    record Person(int kin, int house, int trade) { }

    record Name(int kin, int house) { }

    record Thing(int house, int sort, int weight, int worth) { }

    record Find(int sort, int reach) { }

    record Proof(int claim, int by) { }

    record Claim(int person, int thing, int made) { }

    record Line(String verb, int n, Cond cond) { }

    record Version(int day, List<Line> lines) { }

    interface Cond {
        boolean holds(int claim);
    }

    static final class State {
        int[] width = new int[12];
        int[] rough = new int[12];
        int pond;
        int gateN;
        int gateM;
        int[][] table = {{0}, {0}, {0}};
        List<House> houses = new ArrayList<>();
        List<Row> rows = new ArrayList<>();
        List<Boolean> torn = new ArrayList<>();
        int[] side = new int[4];
        boolean[] doubted = new boolean[4];
        List<Person> persons = new ArrayList<>();
        List<Boolean> safe = new ArrayList<>();
        List<Name> names = new ArrayList<>();
        List<Thing> things = new ArrayList<>();
        List<Find> finds = new ArrayList<>();
        int today;
        List<Version> versions = new ArrayList<>();
        List<Claim> claims = new ArrayList<>();
        List<Integer> paid = new ArrayList<>();
        List<Proof> proofs = new ArrayList<>();
        int fund;

        State() {
            java.util.Arrays.fill(width, 10);
            java.util.Arrays.fill(rough, 2);
        }

        State copy() {
            State o = new State();
            o.width = width.clone();
            o.rough = rough.clone();
            o.pond = pond;
            o.gateN = gateN;
            o.gateM = gateM;
            o.table = new int[][] {table[0].clone(), table[1].clone(), table[2].clone()};
            o.houses = new ArrayList<>(houses);
            o.rows = new ArrayList<>(rows);
            o.torn = new ArrayList<>(torn);
            o.side = side.clone();
            o.doubted = doubted.clone();
            o.persons = new ArrayList<>(persons);
            o.safe = new ArrayList<>(safe);
            o.names = new ArrayList<>(names);
            o.things = new ArrayList<>(things);
            o.finds = new ArrayList<>(finds);
            o.today = today;
            o.versions = new ArrayList<>(versions);
            o.claims = new ArrayList<>(claims);
            o.paid = new ArrayList<>(paid);
            o.proofs = new ArrayList<>(proofs);
            o.fund = fund;
            return o;
        }
    }

    private State s = new State();
    private State kept;

    // ---- what is not kept

    private final List<Integer> tape = new ArrayList<>();
    private final List<int[]> tour = new ArrayList<>();
    private int tourClaims;
    private int tourReach;
    private int tourDay;
    private boolean toured;
    private final Object[] sheets = new Object[4];
    private final Object[] shelves = new Object[4];
    private List<Integer> trace = new ArrayList<>();

    /** What a SHELF holds of a ROW or a CLAIM. */
    record Held(boolean claim, int number) { }

    // ---- nights

    static final class History {
        int[][] depth = new int[180][12];
        int[] fell;
    }

    /** Histories for the state as it is; all are thrown away with each call that isn't refused. */
    private final History[] histories = new History[90];

    private void changed() {
        java.util.Arrays.fill(histories, null);
    }

    private History history(int way, int start) {
        int i = way * 30 + start;
        if (histories[i] == null) {
            histories[i] = simulate(way, start, s.gateN, s.gateM);
        }
        return histories[i];
    }

    private History simulate(int way, int start, int gateN, int gateM) {
        History h = new History();
        h.fell = new int[s.houses.size()];
        java.util.Arrays.fill(h.fell, -1);
        int pond = s.pond;
        int[] water = new int[12];
        for (int m = 0; m < 180; m++) {
            int out = 0;
            if (m >= gateM) {
                int x = Math.min(gateN, pond);
                pond -= x;
                out += x;
            }
            if (m >= start) {
                int[] t = s.table[way];
                int x = Math.min(t[Math.min(m - start, t.length - 1)], pond);
                pond -= x;
                out += x;
            }
            int[] goes = new int[12];
            for (int r = 0; r < 12; r++) {
                int rough = s.rough[r];
                for (int k = 0; k < s.houses.size(); k++) {
                    if (s.houses.get(k).reach() == r && h.fell[k] >= 0 && h.fell[k] < m) {
                        rough++;
                    }
                }
                goes[r] = water[r] / Math.min(9, rough);
            }
            for (int r = 0; r < 12; r++) {
                water[r] = water[r] - goes[r] + (r == 0 ? out : goes[r - 1]);
                h.depth[m][r] = water[r] / s.width[r];
            }
            for (int k = 0; k < s.houses.size(); k++) {
                House house = s.houses.get(k);
                if (h.fell[k] < 0 && h.depth[m][house.reach()] >= house.strength()) {
                    h.fell[k] = m;
                }
            }
        }
        return h;
    }

    /** The first MINUTE in which DEPTH of a REACH is so much or more; -1: never. */
    private static int firstMinute(History h, int reach, int depth) {
        for (int m = 0; m < 180; m++) {
            if (h.depth[m][reach] >= depth) {
                return m;
            }
        }
        return -1;
    }

    private static boolean in(int v, int from, int to) {
        return from <= v && v <= to;
    }

    private boolean night(int way, int start) {
        return in(way, 0, 2) && in(start, 0, 29);
    }

    int reach(int reach, int width, int rough) {
        if (!in(reach, 0, 11) || !in(width, 1, 50) || !in(rough, 2, 9)) {
            return BAD;
        }
        int was = 10 * s.width[reach] + s.rough[reach];
        s.width[reach] = width;
        s.rough[reach] = rough;
        changed();
        return was;
    }

    int pond(int n) {
        if (!in(n, 0, 9999)) {
            return BAD;
        }
        int was = s.pond;
        s.pond = n;
        changed();
        return was;
    }

    int gate(int n, int minute) {
        if (!in(n, 0, 99) || !in(minute, 0, 179)) {
            return BAD;
        }
        int was = s.gateN;
        s.gateN = n;
        s.gateM = minute;
        changed();
        return was;
    }

    int table(int way, int sheet) {
        if (!in(way, 0, 2) || !in(sheet, 0, 3)) {
            return BAD;
        }
        try {
            short[] row = (short[]) sheets[sheet];
            int n = row.length;
            if (n == 0 || n > 8) {
                return STATE;
            }
            int[] table = new int[n];
            for (int i = 0; i < n; i++) {
                if (row[i] < 0 || row[i] > 999) {
                    return STATE;
                }
                table[i] = row[i];
            }
            s.table[way] = table;
            changed();
            return n;
        } catch (ClassCastException e) {
            return -13;
        } catch (NullPointerException e) {
            return -11;
        }
    }

    int house(int reach, int strength, int room) {
        if (!in(reach, 0, 11) || !in(strength, 1, 99) || !in(room, 0, 999)) {
            return BAD;
        }
        if (s.houses.size() == 10) {
            return FULL;
        }
        s.houses.add(new House(reach, strength, room));
        changed();
        return s.houses.size() - 1;
    }

    int depth(int way, int start, int reach, int minute) {
        if (!night(way, start) || !in(reach, 0, 11) || !in(minute, 0, 179)) {
            return BAD;
        }
        return history(way, start).depth[minute][reach];
    }

    int falls(int way, int start, int house) {
        if (!night(way, start) || !in(house, 0, s.houses.size() - 1)) {
            return BAD;
        }
        int m = history(way, start).fell[house];
        return m < 0 ? NONE : m;
    }

    private static int countFallen(History h) {
        int n = 0;
        for (int m : h.fell) {
            n += m >= 0 ? 1 : 0;
        }
        return n;
    }

    int sooner(int way, int start, int n, int minute) {
        if (!in(n, 0, 99) || !in(minute, 0, 179) || !night(way, start)) {
            return BAD;
        }
        int fewer = countFallen(history(way, start)) - countFallen(simulate(way, start, n, minute));
        return fewer < 0 ? 1000 + fewer : fewer;
    }

    // ---- what was seen

    private int addRow(Row row) {
        if (s.rows.size() == 16) {
            return FULL;
        }
        s.rows.add(row);
        s.torn.add(false);
        return s.rows.size() - 1;
    }

    int clock(int reach, int height, int minute, int goes) {
        for (int give = 0; give <= 9; give++) {
            for (int fast = -9; fast <= 9; fast++) {
                if (goes == 100 * give + fast + 9 && in(reach, 0, 11) && in(height, 1, 99) && in(minute, 0, 179)) {
                    return addRow(new Row(1, reach, height, minute, fast, give));
                }
            }
        }
        return BAD;
    }

    int mark(int reach, int from, int to) {
        if (!in(reach, 0, 11) || !in(from, 0, 999) || !in(to, 0, 999) || from > to) {
            return BAD;
        }
        return addRow(new Row(2, reach, 0, from, to, 0));
    }

    int word(int engineer, int ways, int from, int to) {
        if (!in(engineer, 0, 3) || !in(ways, 1, 7) || !in(from, 0, 29) || !in(to, 0, 29) || from > to) {
            return BAD;
        }
        return addRow(new Row(3, engineer, 0, ways, from, to));
    }

    int tear(int row, boolean torn) {
        if (!in(row, 0, s.rows.size() - 1)) {
            return BAD;
        }
        return s.torn.set(row, torn) != torn ? 1 : 0;
    }

    int side(int engineer, int side) {
        if (!in(engineer, 0, 3) || !in(side, 0, 2)) {
            return BAD;
        }
        int was = s.side[engineer];
        s.side[engineer] = side;
        return was;
    }

    int doubt(int side, boolean doubted) {
        if (!in(side, 0, 2)) {
            return BAD;
        }
        int n = 0;
        for (int e = 0; e < 4; e++) {
            if (s.side[e] == side) {
                s.doubted[e] = doubted;
                n++;
            }
        }
        return n;
    }

    private boolean rowLets(int i, int way, int start) {
        Row row = s.rows.get(i);
        if (row.kind() == 3) {
            return (row.a() & 1 << way) != 0 && in(start, row.b(), row.c());
        }
        History h = history(way, start);
        if (row.kind() == 1) {
            int m = firstMinute(h, row.place(), row.height());
            return m >= 0 && Math.abs(m - (row.a() - row.b())) <= row.c();
        }
        int greatest = 0;
        for (int m = 0; m < 180; m++) {
            greatest = Math.max(greatest, h.depth[m][row.place()]);
        }
        return in(greatest, row.a(), row.b());
    }

    private boolean isDoubtedWord(int i) {
        return s.rows.get(i).kind() == 3 && s.doubted[s.rows.get(i).place()];
    }

    private boolean possibleWithout(int without, int way, int start) {
        for (int i = 0; i < s.rows.size(); i++) {
            if (i != without && !s.torn.get(i) && !isDoubtedWord(i) && !rowLets(i, way, start)) {
                return false;
            }
        }
        return true;
    }

    private List<int[]> possibleNow;

    /** To be said ahead of each call: within one call nothing on which POSSIBLE hangs changes. */
    void newCall() {
        possibleNow = null;
    }

    /** (WAY, START) of all that are POSSIBLE. */
    private List<int[]> possibleNights() {
        if (possibleNow != null) {
            return possibleNow;
        }
        List<int[]> all = new ArrayList<>();
        for (int way = 0; way < 3; way++) {
            for (int start = 0; start < 30; start++) {
                if (possibleWithout(-1, way, start)) {
                    all.add(new int[] {way, start});
                }
            }
        }
        possibleNow = all;
        return all;
    }

    int lets(int row, int way, int start) {
        if (!in(row, 0, s.rows.size() - 1) || !night(way, start)) {
            return BAD;
        }
        return rowLets(row, way, start) ? 1 : 0;
    }

    int possible(int way) {
        if (!in(way, -1, 2)) {
            return BAD;
        }
        int n = 0;
        for (int[] night : possibleNights()) {
            n += way == -1 || night[0] == way ? 1 : 0;
        }
        return n;
    }

    int span(int way, boolean last) {
        if (!in(way, 0, 2)) {
            return BAD;
        }
        int answer = NONE;
        for (int[] night : possibleNights()) {
            if (night[0] == way && (last || answer == NONE)) {
                answer = night[1];
            }
        }
        return answer;
    }

    int hangs(int row) {
        if (!in(row, 0, s.rows.size() - 1)) {
            return BAD;
        }
        int n = 0;
        for (int way = 0; way < 3; way++) {
            for (int start = 0; start < 30; start++) {
                if (possibleWithout(row, way, start) && !possibleWithout(-1, way, start)) {
                    n++;
                }
            }
        }
        return n;
    }

    int sure(int house) {
        if (!in(house, 0, s.houses.size() - 1)) {
            return BAD;
        }
        int falls = 0;
        List<int[]> all = possibleNights();
        for (int[] night : all) {
            falls += history(night[0], night[1]).fell[house] >= 0 ? 1 : 0;
        }
        return falls == 0 ? 0 : falls == all.size() ? 2 : 1;
    }

    // ---- the rider

    private static boolean ride(int minute, int reach, int rides, int flee) {
        return in(minute, 0, 179) && in(reach, 0, 11) && in(rides, 100, 999) && in(flee, 0, 30);
    }

    int could(int way, int start, int minute, int reach, int rides, int flee) {
        if (!night(way, start) || !ride(minute, reach, rides, flee)) {
            return BAD;
        }
        String digits = Integer.toString(rides);
        int pace = digits.charAt(0) - '0';
        int stop = digits.charAt(1) - '0';
        History h = history(way, start);
        int bits = 0;
        for (int k = 0; k < s.houses.size(); k++) {
            int at = s.houses.get(k).reach();
            if (at < reach) {
                continue;
            }
            int stops = 0;
            for (int j = 0; j < s.houses.size(); j++) {
                int other = s.houses.get(j).reach();
                if (other >= reach && (other < at || other == at && j <= k)) {
                    stops++;
                }
            }
            int told = minute + pace * (at - reach) + stop * stops;
            int wet = firstMinute(h, at, 1);
            if (wet < 0 || wet - told >= flee) {
                bits |= 1 << k;
            }
        }
        return bits;
    }

    int told(int minute, int reach, int rides, int flee) {
        if (!ride(minute, reach, rides, flee)) {
            return BAD;
        }
        List<int[]> all = possibleNights();
        int bits = all.isEmpty() ? 0 : 1023;
        for (int[] night : all) {
            bits &= could(night[0], night[1], minute, reach, rides, flee);
        }
        return bits;
    }

    // ---- persons, the list, things

    int person(int kin, int house, int trade) {
        if (!in(kin, 0, 9) || !in(house, 0, s.houses.size() - 1) || !in(trade, 0, 5)) {
            return BAD;
        }
        if (s.persons.size() == 16) {
            return FULL;
        }
        s.persons.add(new Person(kin, house, trade));
        s.safe.add(false);
        return s.persons.size() - 1;
    }

    int safe(int person, boolean safe) {
        if (!in(person, 0, s.persons.size() - 1)) {
            return BAD;
        }
        return s.safe.set(person, safe) != safe ? 1 : 0;
    }

    int name(int kin, int house) {
        if (!in(kin, 0, 9) || !in(house, -1, s.houses.size() - 1)) {
            return BAD;
        }
        if (s.names.size() == 16) {
            return FULL;
        }
        s.names.add(new Name(kin, house));
        return s.names.size() - 1;
    }

    private boolean fits(Name name, int p) {
        Person person = s.persons.get(p);
        return !s.safe.get(p) && name.kin() == person.kin()
                && (name.house() == -1 || name.house() == person.house());
    }

    /** By ways that change who stands for whom, for any NAMES and PERSONS. */
    private boolean finds(int name, int without, int[] standsFor, boolean[] tried) {
        for (int p = 0; p < s.persons.size(); p++) {
            if (p != without && !tried[p] && fits(s.names.get(name), p)) {
                tried[p] = true;
                if (standsFor[p] < 0 || finds(standsFor[p], without, standsFor, tried)) {
                    standsFor[p] = name;
                    return true;
                }
            }
        }
        return false;
    }

    private int stand(int without) {
        int[] standsFor = new int[16];
        java.util.Arrays.fill(standsFor, -1);
        int n = 0;
        for (int i = 0; i < s.names.size(); i++) {
            n += finds(i, without, standsFor, new boolean[16]) ? 1 : 0;
        }
        return n;
    }

    int list(int what) {
        if (what == -1) {
            return s.names.size() - stand(-1);
        }
        if (what == -2) {
            int never = 0;
            for (Name name : s.names) {
                boolean any = false;
                for (int p = 0; p < s.persons.size(); p++) {
                    any |= fits(name, p);
                }
                never += any ? 0 : 1;
            }
            return never;
        }
        if (!in(what, 0, s.persons.size() - 1)) {
            return BAD;
        }
        return stand(what) == stand(-1) ? 0 : 1;
    }

    int thing(int house, int kind, int worth) {
        if (!in(house, 0, s.houses.size() - 1) || kind < 0 || !in(kind / 100, 0, 7) || !in(kind % 100, 1, 99)
                || !in(worth, 1, 999)) {
            return BAD;
        }
        if (s.things.size() == 12) {
            return FULL;
        }
        s.things.add(new Thing(house, kind / 100, kind % 100, worth));
        return s.things.size() - 1;
    }

    int lies(int thing, int way, int start) {
        if (!in(thing, 0, s.things.size() - 1) || !night(way, start)) {
            return BAD;
        }
        Thing t = s.things.get(thing);
        History h = history(way, start);
        int r = s.houses.get(t.house()).reach();
        int fell = h.fell[t.house()];
        if (fell < 0) {
            return 100 + r;
        }
        for (int m = fell + 1; m < 180 && r < 12 && h.depth[m][r] >= t.weight(); m++) {
            r++;
        }
        return r;
    }

    int find(int sort, int reach) {
        if (!in(sort, 0, 7) || !in(reach, 0, 11)) {
            return BAD;
        }
        if (s.finds.size() == 12) {
            return FULL;
        }
        s.finds.add(new Find(sort, reach));
        return s.finds.size() - 1;
    }

    int whose(int find) {
        if (!in(find, 0, s.finds.size() - 1)) {
            return BAD;
        }
        int bits = 0;
        for (int[] night : possibleNights()) {
            for (int t = 0; t < s.things.size(); t++) {
                if (s.things.get(t).sort() == s.finds.get(find).sort()
                        && lies(t, night[0], night[1]) == s.finds.get(find).reach()) {
                    bits |= 1 << t;
                }
            }
        }
        return bits;
    }

    // ---- the act

    int days(int n) {
        if (!in(n, 1, 99)) {
            return BAD;
        }
        if (s.today + n > 999) {
            return STATE;
        }
        return s.today += n;
    }

    int feed(long eight, int n) {
        if (!in(n, 1, 8)) {
            return BAD;
        }
        if (tape.size() + n > 240) {
            return FULL;
        }
        for (int i = 0; i < n; i++) {
            tape.add((int) (eight >>> 8 * i & 255));
        }
        return tape.size();
    }

    private static final class Fault extends RuntimeException {
        private static final long serialVersionUID = 1L;
        final int place;

        Fault(int place) {
            super("fault", null, false, false);
            this.place = place;
        }
    }

    record Token(String text, int place) { }

    /** Reads a TEXT from tokens; "" is the end. */
    private final class Parser {
        private final List<Token> tokens = new ArrayList<>();
        private int at = 0;

        Parser() {
            StringBuilder all = new StringBuilder();
            for (int b : tape) {
                all.append((char) b);
            }
            java.util.regex.Matcher m = java.util.regex.Pattern
                    .compile("[a-z]+|[0-9]+|[^ ]", java.util.regex.Pattern.DOTALL).matcher(all);
            while (m.find()) {
                tokens.add(new Token(m.group(), m.start()));
            }
            tokens.add(new Token("", tape.size()));
        }

        private String peek() {
            return tokens.get(at).text();
        }

        private Fault fault() {
            return new Fault(tokens.get(at).place());
        }

        private void need(String text) {
            if (!peek().equals(text)) {
                throw fault();
            }
            at++;
        }

        private int number(int most) {
            if (!peek().matches("[0-9]{1,3}") || Integer.parseInt(peek()) > most) {
                throw fault();
            }
            return Integer.parseInt(tokens.get(at++).text());
        }

        List<Line> text() {
            List<Line> lines = new ArrayList<>();
            while (!peek().isEmpty()) {
                if (lines.size() == 9) {
                    throw fault();
                }
                lines.add(line());
                need(";");
            }
            return lines;
        }

        private Line line() {
            String verb = peek();
            if (!List.of("pay", "rank", "bar", "late", "proof").contains(verb)) {
                throw fault();
            }
            at++;
            if (verb.equals("bar")) {
                need("if");
                return new Line(verb, 0, cond(0));
            }
            int n = number(verb.equals("pay") ? 100 : verb.equals("rank") ? 9 : 999);
            if ((verb.equals("pay") || verb.equals("rank")) && peek().equals("if")) {
                at++;
                return new Line(verb, n, cond(0));
            }
            return new Line(verb, n, c -> true);
        }

        private Cond cond(int open) {
            Cond left = all(open);
            while (peek().equals("or")) {
                at++;
                Cond one = left;
                Cond other = all(open);
                left = c -> one.holds(c) || other.holds(c);
            }
            return left;
        }

        private Cond all(int open) {
            Cond left = one(open);
            while (peek().equals("and")) {
                at++;
                Cond one = left;
                Cond other = one(open);
                left = c -> one.holds(c) && other.holds(c);
            }
            return left;
        }

        private Cond one(int open) {
            if (peek().equals("not")) {
                at++;
                Cond inner = one(open);
                return c -> !inner.holds(c);
            }
            String word = peek();
            if (word.equals("fell") || word.equals("found")) {
                at++;
                return c -> fact(c, word) == 1;
            }
            if (word.equals("(") && open < 4) {
                at++;
                Cond inner = cond(open + 1);
                need(")");
                return inner;
            }
            if (!List.of("worth", "sort", "trade", "kin", "proofs", "reach").contains(word)) {
                throw fault();
            }
            at++;
            String sign = peek();
            if (!List.of("<", "=", ">").contains(sign)) {
                throw fault();
            }
            at++;
            int n = number(999);
            return c -> sign.equals("<") ? fact(c, word) < n
                    : sign.equals(">") ? fact(c, word) > n : fact(c, word) == n;
        }
    }

    int read() {
        try {
            List<Line> lines = new Parser().text();
            if (s.versions.size() == 8) {
                return FULL;
            }
            s.versions.add(new Version(s.today, lines));
            return s.versions.size() - 1;
        } catch (Fault f) {
            return -100 - f.place;
        } finally {
            tape.clear();
        }
    }

    private int fact(int claim, String word) {
        Claim c = s.claims.get(claim);
        Thing thing = s.things.get(c.thing());
        switch (word) {
            case "worth": return thing.worth();
            case "sort": return thing.sort();
            case "trade": return s.persons.get(c.person()).trade();
            case "kin": return s.persons.get(c.person()).kin();
            case "proofs": return countProofs(claim);
            case "reach": return s.houses.get(thing.house()).reach();
            case "fell": return sure(thing.house()) == 2 ? 1 : 0;
            case "found": return isFound(c.thing()) ? 1 : 0;
            default: throw new IllegalArgumentException(word);
        }
    }

    private boolean isFound(int thing) {
        for (int f = 0; f < s.finds.size(); f++) {
            if ((whose(f) & 1 << thing) != 0) {
                return true;
            }
        }
        return false;
    }

    private int countProofs(int claim) {
        java.util.Set<Integer> by = new java.util.HashSet<>();
        for (Proof p : s.proofs) {
            if (p.claim() == claim) {
                by.add(p.by());
            }
        }
        return by.size();
    }

    private List<Line> act(int day) {
        List<Line> lines = List.of();
        for (Version v : s.versions) {
            if (v.day() <= day) {
                lines = v.lines();
            }
        }
        return lines;
    }

    private int firstLine(int claim, int day, String verb) {
        List<Line> lines = act(day);
        for (int i = 0; i < lines.size(); i++) {
            if (lines.get(i).verb().equals(verb) && lines.get(i).cond().holds(claim)) {
                return i;
            }
        }
        return NONE;
    }

    private boolean barred(int claim, int day) {
        int late = 9999;
        int proof = 0;
        for (Line line : act(day)) {
            late = line.verb().equals("late") ? line.n() : late;
            proof = line.verb().equals("proof") ? line.n() : proof;
        }
        return firstLine(claim, day, "bar") != NONE || s.claims.get(claim).made() > late
                || countProofs(claim) < proof;
    }

    private int owed(int claim, int day) {
        int line = firstLine(claim, day, "pay");
        return line == NONE || barred(claim, day) ? 0 : fact(claim, "worth") * act(day).get(line).n() / 100;
    }

    private int rankOf(int claim, int day) {
        int line = firstLine(claim, day, "rank");
        return line == NONE ? 9 : act(day).get(line).n();
    }

    private boolean isClaim(int claim) {
        return in(claim, 0, s.claims.size() - 1);
    }

    int claim(int person, int thing) {
        if (!in(person, 0, s.persons.size() - 1) || !in(thing, 0, s.things.size() - 1)) {
            return BAD;
        }
        for (Claim c : s.claims) {
            if (c.person() == person && c.thing() == thing) {
                return STATE;
            }
        }
        if (s.claims.size() == 16) {
            return FULL;
        }
        s.claims.add(new Claim(person, thing, s.today));
        s.paid.add(NONE);
        return s.claims.size() - 1;
    }

    int proof(int claim, int by) {
        if (!isClaim(claim) || !in(by, -1, s.persons.size() - 1)) {
            return BAD;
        }
        if (by >= 0 && s.persons.get(by).kin() == fact(claim, "kin")) {
            return STATE;
        }
        if (s.proofs.size() == 24) {
            return FULL;
        }
        s.proofs.add(new Proof(claim, by));
        return countProofs(claim);
    }

    int claimOf(int claim, int day, int what) {
        if (!isClaim(claim) || !in(day, 0, 999)) {
            return BAD;
        }
        switch (what) {
            case 0: return s.claims.get(claim).person();
            case 1: return s.claims.get(claim).thing();
            case 2: return countProofs(claim);
            case 3: return barred(claim, day) ? 1 : 0;
            case 4: return owed(claim, day);
            case 5: return rankOf(claim, day);
            case 6: return s.paid.get(claim);
            case 7: return fact(claim, "found");
            default: return BAD;
        }
    }

    int why(int claim, int day, int what) {
        if (!isClaim(claim) || !in(day, 0, 999) || !in(what, 0, 2)) {
            return BAD;
        }
        return firstLine(claim, day, List.of("pay", "rank", "bar").get(what));
    }

    int odd(int what) {
        if (!in(what, 0, 1)) {
            return BAD;
        }
        int[] by = new int[12];
        int[] worth = new int[10];
        for (Claim c : s.claims) {
            Thing t = s.things.get(c.thing());
            worth[t.house()] += by[c.thing()]++ == 0 ? t.worth() : 0;
        }
        int bits = 0;
        for (int i = 0; i < (what == 0 ? s.houses.size() : 12); i++) {
            bits |= (what == 0 ? worth[i] > s.houses.get(i).room() : by[i] >= 2) ? 1 << i : 0;
        }
        return bits;
    }

    int fund(int n) {
        if (!in(n, 1, 9999)) {
            return BAD;
        }
        return s.fund = Math.min(99999, s.fund + n);
    }

    int pay() {
        int n = 0;
        for (int rank = 0; rank < 10; rank++) {
            for (int c = 0; c < s.claims.size(); c++) {
                if (s.paid.get(c) == NONE && rankOf(c, s.today) == rank) {
                    int sum = owed(c, s.today);
                    if (sum > 0 && sum <= s.fund) {
                        s.paid.set(c, sum);
                        s.fund -= sum;
                        n++;
                    }
                }
            }
        }
        return n;
    }

    int offer(int claim, int n) {
        if (!isClaim(claim) || !in(n, 1, 999)) {
            return BAD;
        }
        if (s.paid.get(claim) != NONE || s.fund < n) {
            return STATE;
        }
        s.paid.set(claim, n);
        return s.fund -= n;
    }

    int likest(int what) {
        if (!in(what, 0, 2)) {
            return BAD;
        }
        int[] best = null;
        for (int c = 0; c < s.claims.size(); c++) {
            for (int d = c + 1; d < s.claims.size(); d++) {
                int p = s.paid.get(c);
                int q = s.paid.get(d);
                if (p == NONE || q == NONE || p == q || fact(c, "sort") != fact(d, "sort")
                        || fact(c, "worth") != fact(d, "worth")) {
                    continue;
                }
                int differ = 0;
                for (String word : List.of("trade", "kin", "proofs", "reach", "fell", "found")) {
                    differ += fact(c, word) != fact(d, word) ? 1 : 0;
                }
                if (best == null || differ < best[2]) {
                    best = new int[] {c, d, differ};
                }
            }
        }
        return best == null ? NONE : best[what];
    }

    // ---- rounds, the company

    private int claimReach(int claim) {
        return fact(claim, "reach");
    }

    private int bestCost;
    private List<Integer> bestOrder;

    private void tryOrders(List<Integer> order, List<Integer> left, int[] weights) {
        if (left.isEmpty()) {
            int day = 0;
            int at = tourReach;
            int cost = 0;
            for (int i = 0; i < order.size(); i++) {
                int to = claimReach(order.get(i));
                day += Math.abs(to - at) + (i > 0 ? 1 : 0);
                at = to;
                cost += day * weights[order.get(i)];
            }
            if (bestOrder == null || cost < bestCost) {
                bestCost = cost;
                bestOrder = List.copyOf(order);
            }
            return;
        }
        for (Integer next : left) {
            List<Integer> rest = new ArrayList<>(left);
            rest.remove(next);
            order.add(next);
            tryOrders(order, rest, weights);
            order.remove(order.size() - 1);
        }
    }

    int round(int claims, int reach) {
        for (int bit = 0; bit < 32; bit++) {
            if ((claims >>> bit & 1) == 1 && bit >= s.claims.size()) {
                return BAD;
            }
        }
        if (!in(reach, 0, 11)) {
            return BAD;
        }
        List<Integer> all = new ArrayList<>();
        int[] weights = new int[16];
        for (int c = 0; c < s.claims.size(); c++) {
            if ((claims >> c & 1) == 1) {
                all.add(c);
            }
        }
        if (all.size() > 7) {
            return FULL;
        }
        if (all.isEmpty()) {
            return NONE;
        }
        for (int c : all) {
            weights[c] = fact(c, "fell") == 1 ? 3 : 1;
        }
        toured = true;
        tourClaims = claims;
        tourReach = reach;
        tourDay = s.today;
        bestOrder = null;
        tryOrders(new ArrayList<>(), all, weights);
        tour.clear();
        int at = reach;
        int day = s.today;
        for (int c : bestOrder) {
            day += Math.abs(claimReach(c) - at) + (tour.isEmpty() ? 0 : 1);
            at = claimReach(c);
            tour.add(new int[] {c, day});
        }
        return bestCost;
    }

    int row(int i, int what) {
        return in(i, 0, tour.size() - 1) && in(what, 0, 1) ? tour.get(i)[what] : -9;
    }

    int alterRow(int i, int what, int v) {
        int was = row(i, what);
        if (in(i, 0, tour.size() - 1) && in(what, 0, 1)) {
            tour.get(i)[what] = v;
        }
        return was;
    }

    int dropRow() {
        if (tour.isEmpty()) {
            return NONE;
        }
        tour.remove(tour.size() - 1);
        return tour.size();
    }

    int judge() {
        if (!toured) {
            return NONE;
        }
        List<Integer> heard = new ArrayList<>();
        for (int i = 0; i < tour.size(); i++) {
            int c = tour.get(i)[0];
            if (!in(c, 0, 15) || (tourClaims >> c & 1) == 0 || !isClaim(c) || heard.contains(c)) {
                return i + 1;
            }
            int due = i == 0 ? tourDay + Math.abs(claimReach(c) - tourReach)
                    : tour.get(i - 1)[1] + 1 + Math.abs(claimReach(c) - claimReach(tour.get(i - 1)[0]));
            if (tour.get(i)[1] != due) {
                return i + 1;
            }
            heard.add(c);
        }
        return tour.size() < Integer.bitCount(tourClaims) ? tour.size() + 1 : 0;
    }

    int years(int debt, int income, int rate) {
        if (!in(debt, 0, 99999) || !in(income, 0, 9999) || !in(rate, 0, 300)) {
            return BAD;
        }
        long left = debt;
        int years = 0;
        while (left > 0) {
            if (++years > 60) {
                return NONE;
            }
            left = left + -Math.floorDiv(-5 * left, 100L);
            left -= Math.min(left, (long) income * rate / 100);
        }
        return years;
    }

    int rate(int debt, int income, int years) {
        if (!in(debt, 0, 99999) || !in(income, 0, 9999) || !in(years, 1, 60)) {
            return BAD;
        }
        for (int rate = 0; rate <= 300; rate++) {
            int takes = years(debt, income, rate);
            if (takes != NONE && takes <= years) {
                return rate;
            }
        }
        return NONE;
    }

    // ---- the host

    int sheet(int sheet, int sort, int n) {
        if (!in(sheet, 0, 3) || !in(sort, -1, 4) || sort != -1 && n > 40) {
            return BAD;
        }
        try {
            switch (sort) {
                case 0: sheets[sheet] = new byte[n]; break;
                case 1: sheets[sheet] = new short[n]; break;
                case 2: sheets[sheet] = new int[n]; break;
                case 3: sheets[sheet] = new long[n]; break;
                case 4: sheets[sheet] = new boolean[n]; break;
                default: sheets[sheet] = null; break;
            }
            return 1;
        } catch (NegativeArraySizeException e) {
            return -14;
        }
    }

    int put(int sheet, int i, int v) {
        if (!in(sheet, 0, 3)) {
            return BAD;
        }
        Object row = sheets[sheet];
        if (row == null) {
            return -11;
        }
        try {
            if (row instanceof byte[] bytes) {
                bytes[i] = (byte) v;
            } else if (row instanceof short[] shorts) {
                shorts[i] = (short) v;
            } else if (row instanceof int[] ints) {
                ints[i] = v;
            } else if (row instanceof long[] longs) {
                longs[i] = v;
            } else if (row instanceof boolean[] booleans) {
                booleans[i] = v != 0;
            }
            return 1;
        } catch (ArrayIndexOutOfBoundsException e) {
            return -12;
        }
    }

    int item(int sheet, int sort, int i) {
        if (!in(sheet, 0, 3) || !in(sort, 0, 4)) {
            return BAD;
        }
        try {
            Object row = sheets[sheet];
            switch (sort) {
                case 0: return ((byte[]) row)[i];
                case 1: return ((short[]) row)[i];
                case 2: return ((int[]) row)[i];
                case 3: return (int) ((long[]) row)[i];
                default: return ((boolean[]) row)[i] ? 1 : 0;
            }
        } catch (ClassCastException e) {
            return -13;
        } catch (NullPointerException e) {
            return -11;
        } catch (ArrayIndexOutOfBoundsException e) {
            return -12;
        }
    }

    int shelf(int shelf, int what, int n) {
        if (!in(shelf, 0, 3) || !in(what, 0, 3)) {
            return BAD;
        }
        int most = what == 0 ? s.rows.size() - 1 : what == 1 ? s.claims.size() - 1 : 3;
        if (what != 3 && !in(n, 0, most)) {
            return BAD;
        }
        shelves[shelf] = what == 0 ? new Held(false, n) : what == 1 ? new Held(true, n)
                : what == 2 ? sheets[n] : null;
        return 1;
    }

    private class RowThing {
        final int n;
        final int r;
        final int a;

        RowThing(int n, int r, int a) {
            this.n = n;
            this.r = r;
            this.a = a;
        }

        int fits(int x) {
            trace.add(10);
            return x + a;
        }

        int pays(int x) {
            trace.add(11);
            return fits(x) * 2;
        }

        int hangs(int x) {
            trace.add(12);
            return pays(x) - r;
        }

        int tells(int x) {
            trace.add(13);
            return x / (r - n);
        }
    }

    private final class ClockThing extends RowThing {
        ClockThing(int n, int r, int a) {
            super(n, r, a);
        }

        @Override int fits(int x) {
            trace.add(20);
            return super.fits(x) ^ n;
        }
    }

    private final class MarkThing extends RowThing {
        MarkThing(int n, int r, int a) {
            super(n, r, a);
        }

        @Override int hangs(int x) {
            trace.add(30);
            return super.hangs(x) + fits(1);
        }
    }

    private class WordThing extends RowThing {
        WordThing(int n, int r, int a) {
            super(n, r, a);
        }

        @Override int pays(int x) {
            trace.add(40);
            return 0 - super.pays(x);
        }

        @Override int tells(int x) {
            trace.add(41);
            return super.tells(x + 3);
        }
    }

    private final class DoubtedThing extends WordThing {
        DoubtedThing(int n, int r, int a) {
            super(n, r, a);
        }

        @Override int fits(int x) {
            trace.add(50);
            return super.fits(x - 1);
        }

        @Override int pays(int x) {
            trace.add(51);
            return super.pays(x) * 3;
        }
    }

    private class ClaimThing extends RowThing {
        ClaimThing(int n, int r, int a) {
            super(n, r, a);
        }

        @Override int hangs(int x) {
            trace.add(60);
            return super.hangs(x) * 2;
        }

        @Override int tells(int x) {
            trace.add(61);
            return 0 - super.tells(x);
        }
    }

    private final class PaidThing extends ClaimThing {
        PaidThing(int n, int r, int a) {
            super(n, r, a);
        }

        @Override int hangs(int x) {
            trace.add(70);
            return super.hangs(x) + pays(n);
        }

        @Override int fits(int x) {
            trace.add(71);
            return super.fits(x) + 5;
        }
    }

    private static final List<Class<?>> KINDS = List.of(RowThing.class, ClockThing.class, MarkThing.class,
            WordThing.class, DoubtedThing.class, ClaimThing.class, PaidThing.class);
    private static final List<Class<?>> SORTS =
            List.of(byte[].class, short[].class, int[].class, long[].class, boolean[].class);

    /** What a SHELF holds: a thing, a row, or null. */
    private Object held(int shelf) {
        if (!(shelves[shelf] instanceof Held h)) {
            return shelves[shelf];
        }
        int n = h.number();
        if (h.claim()) {
            if (!isClaim(n)) {
                return null;
            }
            return s.paid.get(n) == NONE ? new ClaimThing(n, claimReach(n), fact(n, "worth"))
                    : new PaidThing(n, claimReach(n), fact(n, "worth"));
        }
        if (n >= s.rows.size()) {
            return null;
        }
        Row row = s.rows.get(n);
        switch (row.kind()) {
            case 1: return new ClockThing(n, row.place(), row.a());
            case 2: return new MarkThing(n, row.place(), row.a());
            default: return isDoubtedWord(n) ? new DoubtedThing(n, row.place(), row.a())
                    : new WordThing(n, row.place(), row.a());
        }
    }

    int taken(int shelf, int as) {
        if (!in(shelf, 0, 3) || !in(as, 0, 6) && !in(as, 10, 14)) {
            return BAD;
        }
        Object held = held(shelf);
        if (held == null) {
            return -11;
        }
        Class<?> wanted = as < 10 ? KINDS.get(as) : SORTS.get(as - 10);
        if (!wanted.isInstance(held)) {
            return -13;
        }
        return as < 10 ? ((RowThing) held).n : java.lang.reflect.Array.getLength(held);
    }

    int deal(int shelf, int deal, int x) {
        trace = new ArrayList<>();
        if (!in(shelf, 0, 3) || !in(deal, 0, 3) || !(held(shelf) instanceof RowThing thing)) {
            return 0;
        }
        try {
            switch (deal) {
                case 0: return thing.fits(x);
                case 1: return thing.pays(x);
                case 2: return thing.hangs(x);
                default: return thing.tells(x);
            }
        } catch (ArithmeticException e) {
            return -15;
        }
    }

    int trace(int i) {
        return in(i, 0, Math.min(30, trace.size()) - 1) ? trace.get(i) : NONE;
    }

    int many(int what) {
        int torn = 0;
        int paid = 0;
        for (boolean t : s.torn) {
            torn += t ? 1 : 0;
        }
        for (int p : s.paid) {
            paid += p == NONE ? 0 : 1;
        }
        int[] all = {s.today, s.houses.size(), s.rows.size(), torn, s.persons.size(), s.names.size(),
            s.things.size(), s.finds.size(), s.versions.size(), s.claims.size(), paid, s.proofs.size(), s.fund,
            tour.size(), tape.size(), Math.min(30, trace.size()), s.pond};
        return in(what, 0, 16) ? all[what] : BAD;
    }

    // ---- kept

    int keep() {
        kept = s.copy();
        return 1;
    }

    int again() {
        if (kept == null) {
            return NONE;
        }
        s = kept.copy();
        changed();
        return 1;
    }
}
