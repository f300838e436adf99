import java.util.Arrays;

/**
 * A night on which a wall of earth let go, and the years of hearings behind it.
 * The words in capitals in the comments are those of the document.
 */
public final class BurstValley {
    public static final int BAD = -1, FULL = -2, NONE = -3, STATE = -4;

    private static final int NOTHING = -11;
    private static final int OUTSIDE = -12;
    private static final int OTHER_KIND = -13;
    private static final int BELOW_ZERO = -14;
    private static final int PARTED_BY_ZERO = -15;
    private static final int NO_SUCH_ROW = -9;

    private static final int REACHES = 12;
    private static final int MINUTES = 180;
    private static final int WAYS = 3;
    private static final int STARTS = 30;
    private static final int NIGHTS = 90;
    private static final int TABLE_SIZE = 8;
    private static final int HOUSES = 10;
    private static final int SEEN_ROWS = 16;
    private static final int ENGINEERS = 4;
    private static final int SIDES = 3;
    private static final int PERSONS = 16;
    private static final int NAMES = 16;
    private static final int THINGS = 12;
    private static final int FINDS = 12;
    private static final int DAYS = 1000;
    private static final int TAPE_SIZE = 240;
    private static final int VERSIONS = 8;
    private static final int LINES = 9;
    /** No TEXT has more codes: the WORD behind each and what must part it take three bytes. */
    private static final int CODES = 80;
    private static final int CLAIMS = 16;
    private static final int PROOFS = 24;
    private static final int FUND_MOST = 99999;
    private static final int ROUND_SIZE = 7;
    private static final int YEARS_MOST = 60;
    private static final int RATE_MOST = 300;
    private static final int SHEETS = 4;
    private static final int SHEET_SIZE = 40;
    private static final int SHELVES = 4;
    private static final int TRACE_SIZE = 30;
    private static final int DEALS = 4;

    private static final int SHORTS = 1;
    private static final int SORTS = 5;

    private static final int KIND_ROW = 0;
    private static final int KIND_CLOCK = 1;
    private static final int KIND_MARK = 2;
    private static final int KIND_WORD = 3;
    private static final int KIND_DOUBTED = 4;
    private static final int KIND_CLAIM = 5;
    private static final int KIND_PAID = 6;
    private static final int KINDS = 7;

    private final Valley valley = new Valley();
    private final Valley keptValley = new Valley();
    private final Seen seen = new Seen();
    private final Seen keptSeen = new Seen();
    private final Folk folk = new Folk();
    private final Folk keptFolk = new Folk();
    private final Act act = new Act();
    private final Act keptAct = new Act();
    private final Claims claims = new Claims();
    private final Claims keptClaims = new Claims();
    private final Night night;
    private final Nights nights;
    private final Reader reader;
    private final Law law;
    private final Tour tour;
    private final Host host;
    private boolean isKept;

    public BurstValley() {
        night = new Night(valley, seen, folk);
        nights = new Nights(valley, seen, folk, night);
        reader = new Reader(act);
        law = new Law(valley, folk, act, claims, nights);
        tour = new Tour(valley, folk, claims, nights);
        host = new Host(valley, seen, folk, claims);
    }

    // ---- the valley, nights

    public int reach(int reach, int width, int rough) {
        if (!isReach(reach) || !within(width, 1, 50) || !within(rough, 2, 9)) {
            return BAD;
        }
        int had = valley.width[reach] * 10 + valley.rough[reach];
        valley.width[reach] = width;
        valley.rough[reach] = rough;
        nights.forgetNights();
        return had;
    }

    public int pond(int n) {
        if (!within(n, 0, 9999)) {
            return BAD;
        }
        int had = valley.water;
        valley.water = n;
        nights.forgetNights();
        return had;
    }

    public int gate(int n, int minute) {
        if (!isGate(n, minute)) {
            return BAD;
        }
        int had = valley.gateLets;
        valley.gateLets = n;
        valley.gateMinute = minute;
        nights.forgetNights();
        return had;
    }

    public int table(int way, int sheet) {
        if (!isWay(way) || !isSheet(sheet)) {
            return BAD;
        }
        int refusal = host.refusesSort(sheet, SHORTS);
        if (refusal != 0) {
            return refusal;
        }
        int length = host.sheetLength[sheet];
        if (!host.isTable(sheet)) {
            return STATE;
        }
        valley.tableLength[way] = length;
        System.arraycopy(host.items, sheet * SHEET_SIZE, valley.table, way * TABLE_SIZE, length);
        nights.forgetNights();
        return length;
    }

    public int house(int reach, int strength, int room) {
        if (!isReach(reach) || !within(strength, 1, 99) || !within(room, 0, 999)) {
            return BAD;
        }
        if (valley.houses >= HOUSES) {
            return FULL;
        }
        int number = valley.houses;
        valley.houseReach[number] = reach;
        valley.houseStrength[number] = strength;
        valley.houseRoom[number] = room;
        valley.houses = number + 1;
        nights.forgetNights();
        return number;
    }

    public int depth(int way, int start, int reach, int minute) {
        if (!isNight(way, start) || !isReach(reach) || !isMinute(minute)) {
            return BAD;
        }
        night.pass(way, start, valley.gateLets, valley.gateMinute, minute);
        return night.depthNow(reach);
    }

    public int falls(int way, int start, int house) {
        if (!isNight(way, start) || !isHouse(house)) {
            return BAD;
        }
        night.pass(way, start, valley.gateLets, valley.gateMinute, MINUTES - 1);
        return night.fellIn[house];
    }

    public int sooner(int way, int start, int n, int minute) {
        if (!isGate(n, minute) || !isNight(way, start)) {
            return BAD;
        }
        night.pass(way, start, valley.gateLets, valley.gateMinute, MINUTES - 1);
        int fell = Integer.bitCount(night.fallen());
        night.pass(way, start, n, minute, MINUTES - 1);
        int fewer = fell - Integer.bitCount(night.fallen());
        return fewer < 0 ? fewer + 1000 : fewer;
    }

    // ---- what was seen

    public int clock(int reach, int height, int minute, int goes) {
        if (!isReach(reach) || !within(height, 1, 99) || !isMinute(minute)
                || !within(goes, 0, 918) || goes % 100 > 18) {
            return BAD;
        }
        if (seen.rows >= SEEN_ROWS) {
            return FULL;
        }
        int middle = minute - (goes % 100 - 9);
        int give = goes / 100;
        seen.height[seen.rows] = height;
        nights.forgetNights();
        return seen.addRow(KIND_CLOCK, reach, minute, middle - give, middle + give);
    }

    public int mark(int reach, int from, int to) {
        if (!isReach(reach) || !within(from, 0, 999) || !within(to, from, 999)) {
            return BAD;
        }
        if (seen.rows >= SEEN_ROWS) {
            return FULL;
        }
        nights.forgetNights();
        return seen.addRow(KIND_MARK, reach, from, from, to);
    }

    public int word(int engineer, int ways, int from, int to) {
        if (!isEngineer(engineer) || !within(ways, 1, 7) || !isStart(from)
                || !isStart(to) || from > to) {
            return BAD;
        }
        if (seen.rows >= SEEN_ROWS) {
            return FULL;
        }
        nights.forgetPossible();
        return seen.addRow(KIND_WORD, engineer, ways, from, to);
    }

    public int tear(int row, boolean torn) {
        if (!isSeenRow(row)) {
            return BAD;
        }
        if (seen.torn[row] == torn) {
            return 0;
        }
        seen.torn[row] = torn;
        nights.forgetPossible();
        return 1;
    }

    public int side(int engineer, int side) {
        if (!isEngineer(engineer) || !within(side, 0, SIDES - 1)) {
            return BAD;
        }
        int was = seen.sideOf[engineer];
        seen.sideOf[engineer] = side;
        return was;
    }

    public int doubt(int side, boolean doubted) {
        if (!within(side, 0, SIDES - 1)) {
            return BAD;
        }
        nights.forgetPossible();
        return seen.setDoubted(side, doubted);
    }

    public int lets(int row, int way, int start) {
        if (!isSeenRow(row) || !isNight(way, start)) {
            return BAD;
        }
        return nights.allLet(way * STARTS + start, 1 << row) ? 1 : 0;
    }

    public int possible(int way) {
        if (!within(way, -1, WAYS - 1)) {
            return BAD;
        }
        nights.weigh();
        return nights.countPossible(way);
    }

    public int span(int way, boolean last) {
        if (!isWay(way)) {
            return BAD;
        }
        nights.weigh();
        return last ? nights.lastStart(way) : nights.firstStart(way);
    }

    public int hangs(int row) {
        if (!isSeenRow(row)) {
            return BAD;
        }
        int speaking = seen.speaking();
        int others = speaking & ~(1 << row);
        if (others == speaking) {
            return 0;
        }
        return nights.countLet(others) - nights.countLet(speaking);
    }

    public int sure(int house) {
        if (!isHouse(house)) {
            return BAD;
        }
        nights.gather();
        if (nights.fallsInEach(house)) {
            return 2;
        }
        return nights.fallsInSome(house) ? 1 : 0;
    }

    // ---- the rider

    public int could(int way, int start, int minute, int reach, int rides, int flee) {
        if (!isNight(way, start) || !isRide(minute, reach, rides, flee)) {
            return BAD;
        }
        return nights.toldInTime(way * STARTS + start, minute, reach, rides, flee);
    }

    public int told(int minute, int reach, int rides, int flee) {
        if (!isRide(minute, reach, rides, flee)) {
            return BAD;
        }
        nights.weigh();
        return nights.toldForSure(minute, reach, rides, flee);
    }

    // ---- persons, the list, things

    public int person(int kin, int house, int trade) {
        if (!within(kin, 0, 9) || !isHouse(house) || !within(trade, 0, 5)) {
            return BAD;
        }
        if (folk.persons >= PERSONS) {
            return FULL;
        }
        int number = folk.persons;
        folk.personKin[number] = kin;
        folk.personHouse[number] = house;
        folk.personTrade[number] = trade;
        folk.personSafe[number] = false;
        folk.persons = number + 1;
        return number;
    }

    public int safe(int person, boolean safe) {
        if (!isPerson(person)) {
            return BAD;
        }
        if (folk.personSafe[person] == safe) {
            return 0;
        }
        folk.personSafe[person] = safe;
        return 1;
    }

    public int name(int kin, int house) {
        if (!within(kin, 0, 9) || house != -1 && !isHouse(house)) {
            return BAD;
        }
        if (folk.names >= NAMES) {
            return FULL;
        }
        int number = folk.names;
        folk.nameKin[number] = kin;
        folk.nameHouse[number] = house;
        folk.names = number + 1;
        return number;
    }

    public int list(int what) {
        if (what == -1) {
            return folk.names - folk.namesThatStand(-1);
        }
        if (what == -2) {
            return folk.namesNever();
        }
        if (!isPerson(what)) {
            return BAD;
        }
        return folk.namesThatStand(what) < folk.namesThatStand(-1) ? 1 : 0;
    }

    public int thing(int house, int kind, int worth) {
        if (!isHouse(house) || !within(kind, 0, 799) || kind % 100 == 0
                || !within(worth, 1, 999)) {
            return BAD;
        }
        if (folk.things >= THINGS) {
            return FULL;
        }
        int number = folk.things;
        folk.thingHouse[number] = house;
        folk.thingSort[number] = kind / 100;
        folk.thingWeight[number] = kind % 100;
        folk.thingWorth[number] = worth;
        folk.things = number + 1;
        nights.forgetNights();
        return number;
    }

    public int lies(int thing, int way, int start) {
        if (!isThing(thing) || !isNight(way, start)) {
            return BAD;
        }
        return nights.restOf(thing, way * STARTS + start);
    }

    public int find(int sort, int reach) {
        if (!within(sort, 0, 7) || !isReach(reach)) {
            return BAD;
        }
        if (folk.finds >= FINDS) {
            return FULL;
        }
        int number = folk.finds;
        folk.findSort[number] = sort;
        folk.findReach[number] = reach;
        folk.finds = number + 1;
        return number;
    }

    public int whose(int find) {
        if (!within(find, 0, folk.finds - 1)) {
            return BAD;
        }
        nights.gather();
        int owners = 0;
        for (int t = 0; t < folk.things; t++) {
            if (nights.canBe(find, t)) {
                owners |= 1 << t;
            }
        }
        return owners;
    }

    // ---- the act, claims, the fund

    public int days(int n) {
        if (!within(n, 1, 99)) {
            return BAD;
        }
        if (claims.today + n >= DAYS) {
            return STATE;
        }
        claims.today += n;
        return claims.today;
    }

    public int feed(long eight, int n) {
        if (!within(n, 1, 8)) {
            return BAD;
        }
        if (reader.length + n > TAPE_SIZE) {
            return FULL;
        }
        reader.append(eight, n);
        return reader.length;
    }

    public int read() {
        int fault = reader.parse();
        reader.length = 0;
        if (fault >= 0) {
            return -100 - fault;
        }
        if (act.versions >= VERSIONS) {
            return FULL;
        }
        int number = act.versions;
        act.day[number] = claims.today;
        act.versions = number + 1;
        return number;
    }

    public int claim(int person, int thing) {
        if (!isPerson(person) || !isThing(thing)) {
            return BAD;
        }
        if (claims.isClaimed(person, thing)) {
            return STATE;
        }
        if (claims.count >= CLAIMS) {
            return FULL;
        }
        return claims.addClaim(person, thing);
    }

    public int proof(int claim, int by) {
        if (!isClaim(claim) || by != -1 && !isPerson(by)) {
            return BAD;
        }
        if (by != -1 && folk.personKin[by] == folk.personKin[claims.person[claim]]) {
            return STATE;
        }
        if (claims.proofs >= PROOFS) {
            return FULL;
        }
        claims.addProof(claim, by);
        return claims.proofsThatCount(claim);
    }

    public int claimOf(int claim, int day, int what) {
        if (!isClaim(claim) || !isDay(day) || !within(what, 0, 7)) {
            return BAD;
        }
        switch (what) {
            case 0:
                return claims.person[claim];
            case 1:
                return claims.thing[claim];
            case 2:
                return claims.proofsThatCount(claim);
            case 6:
                return claims.paid[claim];
            default:
                break;
        }
        nights.gather();
        law.takeFacts(claim);
        int version = act.versionOn(day);
        switch (what) {
            case 3:
                return law.isBarred(version, claims.made[claim]) ? 1 : 0;
            case 4:
                return law.owed(version, claims.made[claim]);
            case 5:
                return law.rank(version);
            default:
                return law.isFound() ? 1 : 0;
        }
    }

    public int why(int claim, int day, int what) {
        if (!isClaim(claim) || !isDay(day) || !within(what, 0, 2)) {
            return BAD;
        }
        nights.gather();
        law.takeFacts(claim);
        int verb = what == 0 ? Reader.PAY : what == 1 ? Reader.RANK : Reader.BAR;
        return law.firstLine(act.versionOn(day), verb);
    }

    public int odd(int what) {
        if (!within(what, 0, 1)) {
            return BAD;
        }
        return what == 0 ? law.housesOver() : law.thingsTwice();
    }

    public int fund(int n) {
        if (!within(n, 1, 9999)) {
            return BAD;
        }
        claims.fund = Math.min(FUND_MOST, claims.fund + n);
        return claims.fund;
    }

    public int pay() {
        nights.gather();
        return law.payByRanks();
    }

    public int offer(int claim, int n) {
        if (!isClaim(claim) || !within(n, 1, 999)) {
            return BAD;
        }
        if (claims.paid[claim] != NONE || claims.fund < n) {
            return STATE;
        }
        claims.payClaim(claim, n);
        return claims.fund;
    }

    public int likest(int what) {
        if (!within(what, 0, 2)) {
            return BAD;
        }
        nights.gather();
        law.findLikest();
        return law.likest[what];
    }

    // ---- rounds, the company

    public int round(int claims, int reach) {
        int known = (1 << this.claims.count) - 1;
        if ((claims & ~known) != 0 || !isReach(reach)) {
            return BAD;
        }
        if (Integer.bitCount(claims) > ROUND_SIZE) {
            return FULL;
        }
        if (claims == 0) {
            return NONE;
        }
        nights.gather();
        return tour.plan(claims, reach);
    }

    public int row(int i, int what) {
        if (!within(i, 0, tour.rows - 1) || !within(what, 0, 1)) {
            return NO_SUCH_ROW;
        }
        return what == 0 ? tour.rowClaim[i] : tour.rowDay[i];
    }

    public int alterRow(int i, int what, int v) {
        if (!within(i, 0, tour.rows - 1) || !within(what, 0, 1)) {
            return NO_SUCH_ROW;
        }
        int[] column = what == 0 ? tour.rowClaim : tour.rowDay;
        int was = column[i];
        column[i] = v;
        return was;
    }

    public int dropRow() {
        if (tour.rows == 0) {
            return NONE;
        }
        tour.rows--;
        return tour.rows;
    }

    public int judge() {
        if (tour.asked == 0) {
            return NONE;
        }
        return tour.firstWrongRow() + 1;
    }

    public int years(int debt, int income, int rate) {
        if (!isDebt(debt, income) || !within(rate, 0, RATE_MOST)) {
            return BAD;
        }
        return yearsTillPaid(debt, income, rate, YEARS_MOST);
    }

    public int rate(int debt, int income, int years) {
        if (!isDebt(debt, income) || !within(years, 1, YEARS_MOST)) {
            return BAD;
        }
        if (yearsTillPaid(debt, income, RATE_MOST, years) == NONE) {
            return NONE;
        }
        int least = 0;
        int most = RATE_MOST;
        // Half of what is left goes each time, so RATE_MOST turns are far more than it needs.
        for (int i = 0; i < RATE_MOST && least < most; i++) {
            int middle = (least + most) / 2;
            if (yearsTillPaid(debt, income, middle, years) == NONE) {
                least = middle + 1;
            } else {
                most = middle;
            }
        }
        return least;
    }

    // ---- the host

    public int sheet(int sheet, int sort, int n) {
        if (!isSheet(sheet) || !within(sort, -1, SORTS - 1)) {
            return BAD;
        }
        if (sort == -1) {
            host.sheetSort[sheet] = -1;
            return 1;
        }
        if (n > SHEET_SIZE) {
            return BAD;
        }
        if (n < 0) {
            return BELOW_ZERO;
        }
        host.makeSheet(sheet, sort, n);
        return 1;
    }

    public int put(int sheet, int i, int v) {
        if (!isSheet(sheet)) {
            return BAD;
        }
        if (host.sheetSort[sheet] < 0) {
            return NOTHING;
        }
        if (!within(i, 0, host.sheetLength[sheet] - 1)) {
            return OUTSIDE;
        }
        host.items[sheet * SHEET_SIZE + i] = narrowed(v, host.sheetSort[sheet]);
        return 1;
    }

    public int item(int sheet, int sort, int i) {
        if (!isSheet(sheet) || !within(sort, 0, SORTS - 1)) {
            return BAD;
        }
        int refusal = host.refusesSort(sheet, sort);
        if (refusal != 0) {
            return refusal;
        }
        if (!within(i, 0, host.sheetLength[sheet] - 1)) {
            return OUTSIDE;
        }
        return host.items[sheet * SHEET_SIZE + i];
    }

    public int shelf(int shelf, int what, int n) {
        if (!isShelf(shelf)) {
            return BAD;
        }
        switch (what) {
            case 0:
                return isSeenRow(n) ? host.putOnShelf(shelf, Host.HOLDS_ROW, n) : BAD;
            case 1:
                return isClaim(n) ? host.putOnShelf(shelf, Host.HOLDS_CLAIM, n) : BAD;
            case 2:
                return isSheet(n) ? host.putSheetOnShelf(shelf, n) : BAD;
            case 3:
                return host.putOnShelf(shelf, Host.HOLDS_NOTHING, 0);
            default:
                return BAD;
        }
    }

    public int taken(int shelf, int as) {
        boolean asSheet = within(as, 10, 9 + SORTS);
        if (!isShelf(shelf) || !within(as, 0, KINDS - 1) && !asSheet) {
            return BAD;
        }
        return asSheet ? host.takenForSort(shelf, as - 10) : host.takenForKind(shelf, as);
    }

    public int deal(int shelf, int deal, int x) {
        host.traced = 0;
        if (!isShelf(shelf) || !within(deal, 0, DEALS - 1)) {
            return 0;
        }
        return host.dealWith(shelf, deal, x);
    }

    public int trace(int i) {
        return within(i, 0, host.traced - 1) ? host.trace[i] : NONE;
    }

    public int many(int what) {
        switch (what) {
            case 0: return claims.today;
            case 1: return valley.houses;
            case 2: return seen.rows;
            case 3: return seen.countTorn();
            case 4: return folk.persons;
            case 5: return folk.names;
            case 6: return folk.things;
            case 7: return folk.finds;
            case 8: return act.versions;
            case 9: return claims.count;
            case 10: return claims.countPaid();
            case 11: return claims.proofs;
            case 12: return claims.fund;
            case 13: return tour.rows;
            case 14: return reader.length;
            case 15: return host.traced;
            case 16: return valley.water;
            default: return BAD;
        }
    }

    // ---- kept

    public int keep() {
        keptValley.copyFrom(valley);
        keptSeen.copyFrom(seen);
        keptFolk.copyFrom(folk);
        keptAct.copyFrom(act);
        keptClaims.copyFrom(claims);
        isKept = true;
        return 1;
    }

    public int again() {
        if (!isKept) {
            return NONE;
        }
        valley.copyFrom(keptValley);
        seen.copyFrom(keptSeen);
        folk.copyFrom(keptFolk);
        act.copyFrom(keptAct);
        claims.copyFrom(keptClaims);
        nights.forgetNights();
        return 1;
    }

    // ---- what arguments are as told

    private static boolean within(int value, int least, int most) {
        return value >= least && value <= most;
    }

    private static boolean isReach(int reach) {
        return within(reach, 0, REACHES - 1);
    }

    private static boolean isMinute(int minute) {
        return within(minute, 0, MINUTES - 1);
    }

    private static boolean isWay(int way) {
        return within(way, 0, WAYS - 1);
    }

    private static boolean isStart(int start) {
        return within(start, 0, STARTS - 1);
    }

    private static boolean isNight(int way, int start) {
        return isWay(way) && isStart(start);
    }

    private static boolean isGate(int n, int minute) {
        return within(n, 0, 99) && isMinute(minute);
    }

    private static boolean isRide(int minute, int reach, int rides, int flee) {
        return isMinute(minute) && isReach(reach) && within(rides, 100, 999) && within(flee, 0, 30);
    }

    private static boolean isEngineer(int engineer) {
        return within(engineer, 0, ENGINEERS - 1);
    }

    private static boolean isDay(int day) {
        return within(day, 0, DAYS - 1);
    }

    private static boolean isDebt(int debt, int income) {
        return within(debt, 0, 99999) && within(income, 0, 9999);
    }

    private static boolean isSheet(int sheet) {
        return within(sheet, 0, SHEETS - 1);
    }

    private static boolean isShelf(int shelf) {
        return within(shelf, 0, SHELVES - 1);
    }

    private boolean isHouse(int house) {
        return within(house, 0, valley.houses - 1);
    }

    private boolean isSeenRow(int row) {
        return within(row, 0, seen.rows - 1);
    }

    private boolean isPerson(int person) {
        return within(person, 0, folk.persons - 1);
    }

    private boolean isThing(int thing) {
        return within(thing, 0, folk.things - 1);
    }

    private boolean isClaim(int claim) {
        return within(claim, 0, claims.count - 1);
    }

    // ---- small sums

    private static int narrowed(int v, int sort) {
        switch (sort) {
            case 0:
                return (byte) v;
            case SHORTS:
                return (short) v;
            case 4:
                return v == 0 ? 0 : 1;
            default:
                // Of longs only the lowest 32 bits are ever told, so an int holds them.
                return v;
        }
    }

    private static int yearsTillPaid(int debt, int income, int rate, int most) {
        int paid = income * rate / 100;
        int left = debt;
        for (int year = 0; year <= most; year++) {
            if (left == 0) {
                return year;
            }
            left += (left * 5 + 99) / 100;
            left = Math.max(0, left - paid);
        }
        return NONE;
    }

    /** REACHES, THE POND, the GATE, TABLES, HOUSES. */
    private static final class Valley {
        final int[] width = new int[REACHES];
        final int[] rough = new int[REACHES];
        final int[] table = new int[WAYS * TABLE_SIZE];
        final int[] tableLength = new int[WAYS];
        final int[] houseReach = new int[HOUSES];
        final int[] houseStrength = new int[HOUSES];
        final int[] houseRoom = new int[HOUSES];
        int water;
        int gateLets;
        int gateMinute;
        int houses;

        Valley() {
            Arrays.fill(width, 10);
            Arrays.fill(rough, 2);
            Arrays.fill(tableLength, 1);
        }

        void copyFrom(Valley other) {
            System.arraycopy(other.width, 0, width, 0, REACHES);
            System.arraycopy(other.rough, 0, rough, 0, REACHES);
            System.arraycopy(other.table, 0, table, 0, WAYS * TABLE_SIZE);
            System.arraycopy(other.tableLength, 0, tableLength, 0, WAYS);
            System.arraycopy(other.houseReach, 0, houseReach, 0, HOUSES);
            System.arraycopy(other.houseStrength, 0, houseStrength, 0, HOUSES);
            System.arraycopy(other.houseRoom, 0, houseRoom, 0, HOUSES);
            water = other.water;
            gateLets = other.gateLets;
            gateMinute = other.gateMinute;
            houses = other.houses;
        }
    }

    /** ROWS of what was seen, and ENGINEERS. */
    private static final class Seen {
        final int[] kind = new int[SEEN_ROWS];
        /** The REACH; of a WORD the ENGINEER. */
        final int[] place = new int[SEEN_ROWS];
        /** The MINUTE by the hands, the least DEPTH, or the WAYS. */
        final int[] main = new int[SEEN_ROWS];
        /** What is let, from one to another: a MINUTE, a DEPTH, or a START. */
        final int[] low = new int[SEEN_ROWS];
        final int[] high = new int[SEEN_ROWS];
        /** Of CLOCKS alone. */
        final int[] height = new int[SEEN_ROWS];
        final boolean[] torn = new boolean[SEEN_ROWS];
        final int[] sideOf = new int[ENGINEERS];
        final boolean[] doubted = new boolean[ENGINEERS];
        int rows;
        /** ROWS that are WORDS, as bits. */
        int words;

        int addRow(int newKind, int newPlace, int newMain, int from, int to) {
            int number = rows;
            kind[number] = newKind;
            place[number] = newPlace;
            main[number] = newMain;
            low[number] = from;
            high[number] = to;
            torn[number] = false;
            if (newKind == KIND_WORD) {
                words |= 1 << number;
            }
            rows = number + 1;
            return number;
        }

        int setDoubted(int side, boolean now) {
            int number = 0;
            for (int e = 0; e < ENGINEERS; e++) {
                if (sideOf[e] == side) {
                    doubted[e] = now;
                    number++;
                }
            }
            return number;
        }

        boolean isDoubtedWord(int row) {
            return kind[row] == KIND_WORD && doubted[place[row]];
        }

        /** ROWS that have a say on what is POSSIBLE, as bits. */
        int speaking() {
            int bits = 0;
            for (int row = 0; row < rows; row++) {
                if (!torn[row] && !isDoubtedWord(row)) {
                    bits |= 1 << row;
                }
            }
            return bits;
        }

        /** WORDS, as bits, that don't let a NIGHT. */
        int wordsAgainst(int way, int start) {
            int bits = 0;
            for (int row = 0; row < rows; row++) {
                if (kind[row] == KIND_WORD && ((main[row] >> way & 1) == 0
                        || !within(start, low[row], high[row]))) {
                    bits |= 1 << row;
                }
            }
            return bits;
        }

        int countTorn() {
            int number = 0;
            for (int row = 0; row < rows; row++) {
                if (torn[row]) {
                    number++;
                }
            }
            return number;
        }

        void copyFrom(Seen other) {
            System.arraycopy(other.kind, 0, kind, 0, SEEN_ROWS);
            System.arraycopy(other.place, 0, place, 0, SEEN_ROWS);
            System.arraycopy(other.main, 0, main, 0, SEEN_ROWS);
            System.arraycopy(other.low, 0, low, 0, SEEN_ROWS);
            System.arraycopy(other.high, 0, high, 0, SEEN_ROWS);
            System.arraycopy(other.height, 0, height, 0, SEEN_ROWS);
            System.arraycopy(other.torn, 0, torn, 0, SEEN_ROWS);
            System.arraycopy(other.sideOf, 0, sideOf, 0, ENGINEERS);
            System.arraycopy(other.doubted, 0, doubted, 0, ENGINEERS);
            rows = other.rows;
            words = other.words;
        }
    }

    /** PERSONS, NAMES, THINGS and FINDS. */
    private static final class Folk {
        final int[] personKin = new int[PERSONS];
        final int[] personHouse = new int[PERSONS];
        final int[] personTrade = new int[PERSONS];
        final boolean[] personSafe = new boolean[PERSONS];
        final int[] nameKin = new int[NAMES];
        /** -1: not told. */
        final int[] nameHouse = new int[NAMES];
        final int[] thingHouse = new int[THINGS];
        final int[] thingSort = new int[THINGS];
        final int[] thingWeight = new int[THINGS];
        final int[] thingWorth = new int[THINGS];
        final int[] findSort = new int[FINDS];
        final int[] findReach = new int[FINDS];
        int persons;
        int names;
        int things;
        int finds;

        boolean isFit(int n, int p) {
            return nameKin[n] == personKin[p] && !personSafe[p]
                    && (nameHouse[n] == -1 || nameHouse[n] == personHouse[p]);
        }

        /** The first PERSON whom a NAME fits and who is not among those left out (bits), or -1. */
        int firstFit(int n, int leftOut) {
            for (int p = 0; p < persons; p++) {
                if ((leftOut >> p & 1) == 0 && isFit(n, p)) {
                    return p;
                }
            }
            return -1;
        }

        /**
         * How many NAMES can each stand for a PERSON of its own, one PERSON left out (-1: nobody).
         * NAMES with a HOUSE choose first: among PERSONS of one KIN and HOUSE all are alike to
         * every NAME, so that no choice can be a wrong one.
         */
        int namesThatStand(int without) {
            int gone = without < 0 ? 0 : 1 << without;
            int number = 0;
            for (int turn = 0; turn < 2; turn++) {
                for (int n = 0; n < names; n++) {
                    if ((nameHouse[n] == -1) == (turn == 0)) {
                        continue;
                    }
                    int p = firstFit(n, gone);
                    if (p >= 0) {
                        gone |= 1 << p;
                        number++;
                    }
                }
            }
            return number;
        }

        int namesNever() {
            int number = 0;
            for (int n = 0; n < names; n++) {
                if (firstFit(n, 0) < 0) {
                    number++;
                }
            }
            return number;
        }

        void copyFrom(Folk other) {
            System.arraycopy(other.personKin, 0, personKin, 0, PERSONS);
            System.arraycopy(other.personHouse, 0, personHouse, 0, PERSONS);
            System.arraycopy(other.personTrade, 0, personTrade, 0, PERSONS);
            System.arraycopy(other.personSafe, 0, personSafe, 0, PERSONS);
            System.arraycopy(other.nameKin, 0, nameKin, 0, NAMES);
            System.arraycopy(other.nameHouse, 0, nameHouse, 0, NAMES);
            System.arraycopy(other.thingHouse, 0, thingHouse, 0, THINGS);
            System.arraycopy(other.thingSort, 0, thingSort, 0, THINGS);
            System.arraycopy(other.thingWeight, 0, thingWeight, 0, THINGS);
            System.arraycopy(other.thingWorth, 0, thingWorth, 0, THINGS);
            System.arraycopy(other.findSort, 0, findSort, 0, FINDS);
            System.arraycopy(other.findReach, 0, findReach, 0, FINDS);
            persons = other.persons;
            names = other.names;
            things = other.things;
            finds = other.finds;
        }
    }

    /** One NIGHT, let go by minute by minute. */
    private static final class Night {
        private final Valley valley;
        private final Seen seen;
        private final Folk folk;
        private final int[] water = new int[REACHES];
        private final int[] roughNow = new int[REACHES];
        /** The greatest DEPTH so far. */
        final int[] peak = new int[REACHES];
        /** The first MINUTE with a DEPTH of 1 or more, or NONE. */
        final int[] wetFrom = new int[REACHES];
        /** The MINUTE in which a HOUSE fell, or NONE. */
        final int[] fellIn = new int[HOUSES];
        /** The first MINUTE in which the water came up to a CLOCK, or NONE. */
        final int[] clockWet = new int[SEEN_ROWS];
        /** The REACH where a THING is. */
        final int[] thingAt = new int[THINGS];
        /** THINGS, as bits, that the water may carry on. */
        private int afloat;
        /** HOUSES, as bits, that fall in this MINUTE. */
        private int fallNow;
        private int pond;
        /** All REACHES from this one on are dry yet. */
        private int front;
        private int way;
        private int start;
        private int gateLets;
        private int gateMinute;

        Night(Valley valley, Seen seen, Folk folk) {
            this.valley = valley;
            this.seen = seen;
            this.folk = folk;
        }

        /** Lets a NIGHT go by, with this GATE, to the last MINUTE and with it. */
        void pass(int newWay, int newStart, int lets, int letsFrom, int last) {
            way = newWay;
            start = newStart;
            gateLets = lets;
            gateMinute = letsFrom;
            begin();
            boolean rests = false;
            for (int m = 0; m <= last && !rests; m++) {
                int comes = comesOut(m);
                int moved = flow(comes);
                carry();
                fallNow = 0;
                rise(m);
                launch();
                rests = comes == 0 && moved == 0 && afloat == 0 && noMoreComes(m);
            }
        }

        int depthNow(int reach) {
            int width = valley.width[reach];
            return width < 1 ? 0 : water[reach] / width;
        }

        /** HOUSES that fell, as bits. */
        int fallen() {
            int bits = 0;
            for (int h = 0; h < valley.houses; h++) {
                if (fellIn[h] != NONE) {
                    bits |= 1 << h;
                }
            }
            return bits;
        }

        private void begin() {
            Arrays.fill(water, 0);
            Arrays.fill(peak, 0);
            Arrays.fill(wetFrom, NONE);
            Arrays.fill(fellIn, NONE);
            Arrays.fill(clockWet, NONE);
            System.arraycopy(valley.rough, 0, roughNow, 0, REACHES);
            for (int t = 0; t < folk.things; t++) {
                thingAt[t] = valley.houseReach[folk.thingHouse[t]];
            }
            afloat = 0;
            pond = valley.water;
            front = 0;
        }

        private int comesOut(int m) {
            int gate = m >= gateMinute ? Math.min(gateLets, pond) : 0;
            pond -= gate;
            int broken = m >= start ? Math.min(tableNumber(m - start), pond) : 0;
            pond -= broken;
            return gate + broken;
        }

        private int tableNumber(int i) {
            int last = valley.tableLength[way] - 1;
            return valley.table[way * TABLE_SIZE + (i < last ? i : last)];
        }

        /** Moves the water of one MINUTE: how much went on from REACH to REACH. */
        private int flow(int comes) {
            int moved = 0;
            int carried = comes;
            for (int r = 0; r < front; r++) {
                int goes = roughNow[r] < 1 ? 0 : water[r] / roughNow[r];
                water[r] += carried - goes;
                carried = goes;
                moved += goes;
            }
            if (front < REACHES && carried > 0) {
                water[front] = carried;
                front++;
            }
            return moved;
        }

        /** Goes ahead of launch(), so that a THING whose HOUSE falls now waits a MINUTE. */
        private void carry() {
            if (afloat == 0) {
                return;
            }
            for (int t = 0; t < folk.things; t++) {
                if ((afloat >> t & 1) == 0) {
                    continue;
                }
                boolean goesOn = depthNow(thingAt[t]) >= folk.thingWeight[t];
                if (goesOn) {
                    thingAt[t]++;
                }
                if (!goesOn || thingAt[t] >= REACHES) {
                    afloat &= ~(1 << t);
                }
            }
        }

        /** Only a DEPTH above all ahead of it can be the first one of some height. */
        private void rise(int m) {
            for (int r = 0; r < front; r++) {
                if (water[r] >= (peak[r] + 1) * valley.width[r]) {
                    if (peak[r] == 0) {
                        wetFrom[r] = m;
                    }
                    peak[r] = depthNow(r);
                    breakHouses(r, m);
                    stopClocks(r, m);
                }
            }
        }

        private void breakHouses(int reach, int m) {
            for (int h = 0; h < valley.houses; h++) {
                if (valley.houseReach[h] == reach && fellIn[h] == NONE
                        && peak[reach] >= valley.houseStrength[h]) {
                    fellIn[h] = m;
                    roughNow[reach] += roughNow[reach] < 9 ? 1 : 0;
                    fallNow |= 1 << h;
                }
            }
        }

        private void launch() {
            if (fallNow == 0) {
                return;
            }
            for (int t = 0; t < folk.things; t++) {
                if ((fallNow >> folk.thingHouse[t] & 1) == 1) {
                    afloat |= 1 << t;
                }
            }
        }

        private void stopClocks(int reach, int m) {
            for (int row = 0; row < seen.rows; row++) {
                if (seen.kind[row] == KIND_CLOCK && seen.place[row] == reach
                        && clockWet[row] == NONE && peak[reach] >= seen.height[row]) {
                    clockWet[row] = m;
                }
            }
        }

        /** Whether nothing comes out of THE POND behind a MINUTE in which nothing came. */
        private boolean noMoreComes(int m) {
            boolean tableIsOut = m >= start + valley.tableLength[way] - 1;
            boolean gateIsOpen = gateLets == 0 || m >= gateMinute;
            return pond == 0 || tableIsOut && gateIsOpen;
        }
    }

    /** What is known of all NIGHTS, and which of them are POSSIBLE. */
    private static final class Nights {
        private final Valley valley;
        private final Seen seen;
        private final Folk folk;
        private final Night night;
        /** The age in which what is known of a NIGHT was found out. */
        private final int[] knownIn = new int[NIGHTS];
        /** HOUSES that fall, as bits. */
        private final int[] fallen = new int[NIGHTS];
        /** CLOCKS and MARKS that don't let it, as bits. */
        private final int[] against = new int[NIGHTS];
        private final int[] wetFrom = new int[NIGHTS * REACHES];
        private final int[] thingAt = new int[NIGHTS * THINGS];
        private final boolean[] isPossible = new boolean[NIGHTS];
        /** Of each THING the REACHES, as bits, where it can have been carried. */
        private final int[] carriedTo = new int[THINGS];
        private int eachFall;
        private int someFall;
        private int age = 1;
        private boolean isWeighed;
        private boolean isGathered;

        Nights(Valley valley, Seen seen, Folk folk, Night night) {
            this.valley = valley;
            this.seen = seen;
            this.folk = folk;
            this.night = night;
        }

        /** Something was told on which NIGHTS themselves hang. */
        void forgetNights() {
            age++;
            forgetPossible();
        }

        /** Something was told on which only hangs what is POSSIBLE. */
        void forgetPossible() {
            isWeighed = false;
            isGathered = false;
        }

        private void know(int number) {
            if (knownIn[number] == age) {
                return;
            }
            night.pass(number / STARTS, number % STARTS, valley.gateLets, valley.gateMinute, MINUTES - 1);
            fallen[number] = night.fallen();
            against[number] = clocksAndMarksAgainst();
            System.arraycopy(night.wetFrom, 0, wetFrom, number * REACHES, REACHES);
            System.arraycopy(night.thingAt, 0, thingAt, number * THINGS, THINGS);
            knownIn[number] = age;
        }

        private int clocksAndMarksAgainst() {
            int bits = 0;
            for (int row = 0; row < seen.rows; row++) {
                if (seen.kind[row] == KIND_WORD) {
                    continue;
                }
                boolean isClock = seen.kind[row] == KIND_CLOCK;
                int shown = isClock ? night.clockWet[row] : night.peak[seen.place[row]];
                if (shown == NONE || !within(shown, seen.low[row], seen.high[row])) {
                    bits |= 1 << row;
                }
            }
            return bits;
        }

        /** Whether all these ROWS (bits) let a NIGHT; WORDS are asked first, as they cost least. */
        boolean allLet(int number, int rows) {
            if ((seen.wordsAgainst(number / STARTS, number % STARTS) & rows) != 0) {
                return false;
            }
            if ((rows & ~seen.words) == 0) {
                return true;
            }
            know(number);
            return (against[number] & rows) == 0;
        }

        int countLet(int rows) {
            int count = 0;
            for (int number = 0; number < NIGHTS; number++) {
                if (allLet(number, rows)) {
                    count++;
                }
            }
            return count;
        }

        /** Finds out which NIGHTS are POSSIBLE. */
        void weigh() {
            if (isWeighed) {
                return;
            }
            int rows = seen.speaking();
            for (int number = 0; number < NIGHTS; number++) {
                isPossible[number] = allLet(number, rows);
            }
            isWeighed = true;
        }

        /** Finds out which NIGHTS are POSSIBLE, and what they have in common. */
        void gather() {
            if (isGathered) {
                return;
            }
            int rows = seen.speaking();
            Arrays.fill(carriedTo, 0);
            someFall = 0;
            eachFall = -1;
            for (int i = 0; i < NIGHTS; i++) {
                isPossible[i] = isWeighed ? isPossible[i] : allLet(i, rows);
                if (isPossible[i]) {
                    know(i);
                    eachFall &= fallen[i];
                    someFall |= fallen[i];
                    gatherThings(i);
                }
            }
            // Where no NIGHT is POSSIBLE, no HOUSE falls in each.
            eachFall &= someFall;
            isWeighed = true;
            isGathered = true;
        }

        private void gatherThings(int number) {
            for (int t = 0; t < folk.things; t++) {
                if ((fallen[number] >> folk.thingHouse[t] & 1) == 1) {
                    carriedTo[t] |= 1 << thingAt[number * THINGS + t];
                }
            }
        }

        /** How many are POSSIBLE, of a WAY or (-1) of all; weigh() goes ahead. */
        int countPossible(int way) {
            int count = 0;
            int from = way < 0 ? 0 : way * STARTS;
            int to = way < 0 ? NIGHTS : from + STARTS;
            for (int number = from; number < to; number++) {
                if (isPossible[number]) {
                    count++;
                }
            }
            return count;
        }

        int firstStart(int way) {
            for (int start = 0; start < STARTS; start++) {
                if (isPossible[way * STARTS + start]) {
                    return start;
                }
            }
            return NONE;
        }

        int lastStart(int way) {
            for (int start = STARTS - 1; start >= 0; start--) {
                if (isPossible[way * STARTS + start]) {
                    return start;
                }
            }
            return NONE;
        }

        /** gather() goes ahead. */
        boolean fallsInEach(int house) {
            return (eachFall >> house & 1) == 1;
        }

        /** gather() goes ahead. */
        boolean fallsInSome(int house) {
            return (someFall >> house & 1) == 1;
        }

        /** Whether a FIND can be a THING; gather() goes ahead. */
        boolean canBe(int find, int thing) {
            return folk.findSort[find] == folk.thingSort[thing]
                    && (carriedTo[thing] >> folk.findReach[find] & 1) == 1;
        }

        int restOf(int thing, int number) {
            know(number);
            int reach = thingAt[number * THINGS + thing];
            boolean fell = (fallen[number] >> folk.thingHouse[thing] & 1) == 1;
            return fell ? reach : reach + 100;
        }

        /** HOUSES, as bits, that a RIDER COULD tell in a NIGHT. */
        int toldInTime(int number, int minute, int reach, int rides, int flee) {
            know(number);
            int pace = rides / 100;
            int stop = rides / 10 % 10;
            int now = minute;
            int told = 0;
            for (int r = reach; r < REACHES; r++) {
                int wet = wetFrom[number * REACHES + r];
                for (int h = 0; h < valley.houses; h++) {
                    if (valley.houseReach[h] != r) {
                        continue;
                    }
                    now += stop;
                    if (wet == NONE || now + flee <= wet) {
                        told |= 1 << h;
                    }
                }
                now += pace;
            }
            return told;
        }

        /** HOUSES, as bits, that are SURE to be told; weigh() goes ahead. */
        int toldForSure(int minute, int reach, int rides, int flee) {
            int told = countPossible(-1) == 0 ? 0 : -1;
            for (int number = 0; number < NIGHTS; number++) {
                if (isPossible[number]) {
                    told &= toldInTime(number, minute, reach, rides, flee);
                }
            }
            return told;
        }
    }

    /** VERSIONS of THE ACT; the place behind the last one is where a TEXT is tried. */
    private static final class Act {
        final int[] day = new int[VERSIONS + 1];
        final int[] lines = new int[VERSIONS + 1];
        final int[] verb = new int[(VERSIONS + 1) * LINES];
        final int[] number = new int[(VERSIONS + 1) * LINES];
        /** The COND of a LINE, its parts behind what joins them: from one code up to another one. */
        final int[] codeFrom = new int[(VERSIONS + 1) * LINES];
        final int[] codeTo = new int[(VERSIONS + 1) * LINES];
        final int[] code = new int[(VERSIONS + 1) * CODES];
        int versions;

        /** The latest VERSION that was read on a DAY or ahead, or -1. */
        int versionOn(int onDay) {
            for (int v = versions - 1; v >= 0; v--) {
                if (day[v] <= onDay) {
                    return v;
                }
            }
            return -1;
        }

        int linesOf(int version) {
            return version < 0 ? 0 : lines[version];
        }

        void copyFrom(Act other) {
            System.arraycopy(other.day, 0, day, 0, VERSIONS + 1);
            System.arraycopy(other.lines, 0, lines, 0, VERSIONS + 1);
            System.arraycopy(other.verb, 0, verb, 0, (VERSIONS + 1) * LINES);
            System.arraycopy(other.number, 0, number, 0, (VERSIONS + 1) * LINES);
            System.arraycopy(other.codeFrom, 0, codeFrom, 0, (VERSIONS + 1) * LINES);
            System.arraycopy(other.codeTo, 0, codeTo, 0, (VERSIONS + 1) * LINES);
            System.arraycopy(other.code, 0, code, 0, (VERSIONS + 1) * CODES);
            versions = other.versions;
        }
    }

    /** THE TAPE, and how it is read. */
    private static final class Reader {
        static final int END = 0;
        static final int PAY = 1;
        static final int RANK = 2;
        static final int BAR = 3;
        static final int LATE = 4;
        static final int PROOF = 5;
        static final int IF = 6;
        static final int OR = 7;
        static final int AND = 8;
        static final int NOT = 9;
        static final int FELL = 10;
        static final int FOUND = 11;
        static final int WORTH = 12;
        static final int LAST_FACT = 17;
        static final int NO_WORD = 18;
        static final int NUMBER = 19;
        /** A byte that is no letter, digit or blank is this much and the byte. */
        static final int SIGN = 100;
        static final int OPEN_MOST = 4;

        /** The words by their numbers from 1 on, each with a blank behind it. */
        private static final String WORDS =
                "pay rank bar late proof if or and not fell found worth sort trade kin proofs reach ";

        private final Act act;
        private final byte[] tape = new byte[TAPE_SIZE];
        int length;
        private int token;
        private int from;
        private int to;
        private int value;
        private int version;
        private int codes;

        Reader(Act act) {
            this.act = act;
        }

        void append(long eight, int n) {
            for (int i = 0; i < n; i++) {
                tape[length] = (byte) (eight >> (8 * i));
                length++;
            }
        }

        /** Reads the TEXT into the place behind the last VERSION: its FAULT, or -1. */
        int parse() {
            version = act.versions;
            codes = 0;
            to = 0;
            advance();
            int line = 0;
            while (token != END && line < LINES) {
                if (!parseLine(line) || token != SIGN + ';') {
                    return from;
                }
                advance();
                line++;
            }
            act.lines[version] = line;
            return token == END ? -1 : from;
        }

        private boolean parseLine(int line) {
            int verb = token;
            int most = mostOf(verb);
            if (most < 0 && verb != BAR) {
                return false;
            }
            int at = version * LINES + line;
            act.verb[at] = verb;
            act.codeFrom[at] = codes;
            act.codeTo[at] = codes;
            advance();
            if (verb != BAR) {
                if (!isNumber(most)) {
                    return false;
                }
                act.number[at] = value;
                advance();
            }
            boolean mayHaveIf = verb == PAY || verb == RANK;
            if (verb == BAR || mayHaveIf && token == IF) {
                if (token != IF) {
                    return false;
                }
                advance();
                if (!parseCond(0)) {
                    return false;
                }
                act.codeTo[at] = codes;
            }
            return true;
        }

        private static int mostOf(int verb) {
            switch (verb) {
                case PAY:
                    return 100;
                case RANK:
                    return 9;
                case LATE:
                case PROOF:
                    return 999;
                default:
                    return -1;
            }
        }

        /** What is joined by and is joined first. */
        private boolean parseCond(int open) {
            for (int ors = 0; ors < TAPE_SIZE; ors++) {
                if (!parseOne(open)) {
                    return false;
                }
                for (int ands = 0; ands < TAPE_SIZE && token == AND; ands++) {
                    advance();
                    if (!parseOne(open)) {
                        return false;
                    }
                    emit(AND);
                }
                if (ors > 0) {
                    emit(OR);
                }
                if (token != OR) {
                    return true;
                }
                advance();
            }
            return false;
        }

        private boolean parseOne(int open) {
            boolean turned = false;
            for (int nots = 0; nots < TAPE_SIZE && token == NOT; nots++) {
                turned = !turned;
                advance();
            }
            boolean isOne = false;
            if (token == FELL || token == FOUND) {
                emit(token);
                advance();
                isOne = true;
            } else if (within(token, WORTH, LAST_FACT)) {
                isOne = parseCompare();
            } else if (token == SIGN + '(' && open < OPEN_MOST) {
                advance();
                isOne = parseCond(open + 1) && token == SIGN + ')';
                if (isOne) {
                    advance();
                }
            }
            if (isOne && turned) {
                emit(NOT);
            }
            return isOne;
        }

        private boolean parseCompare() {
            int fact = token;
            advance();
            int sign = token - SIGN;
            if (sign != '<' && sign != '=' && sign != '>') {
                return false;
            }
            advance();
            if (!isNumber(999)) {
                return false;
            }
            emit(fact | sign << 8 | value << 16);
            advance();
            return true;
        }

        private boolean isNumber(int most) {
            return token == NUMBER && within(value, 0, most);
        }

        private void emit(int code) {
            if (codes < CODES) {
                act.code[version * CODES + codes] = code;
                codes++;
            }
        }

        /** Goes on to the next WORD, NUMBER or other byte. */
        private void advance() {
            from = to;
            while (from < length && tape[from] == ' ') {
                from++;
            }
            to = from;
            if (from >= length) {
                token = END;
            } else if (isLetter(tape[from])) {
                while (to < length && isLetter(tape[to])) {
                    to++;
                }
                token = wordNumber();
            } else if (isDigit(tape[from])) {
                while (to < length && isDigit(tape[to])) {
                    to++;
                }
                token = NUMBER;
                value = numberValue();
            } else {
                to++;
                token = SIGN + (tape[from] & 255);
            }
        }

        private static boolean isLetter(int sign) {
            return sign >= 'a' && sign <= 'z';
        }

        private static boolean isDigit(int sign) {
            return sign >= '0' && sign <= '9';
        }

        /** The value of a NUMBER, or -1 if it has more than 3 digits. */
        private int numberValue() {
            if (to - from > 3) {
                return -1;
            }
            int sum = 0;
            for (int at = from; at < to; at++) {
                sum = sum * 10 + tape[at] - '0';
            }
            return sum;
        }

        private int wordNumber() {
            int number = 1;
            int at = from;
            boolean same = true;
            for (int i = 0; i < WORDS.length(); i++) {
                char c = WORDS.charAt(i);
                if (c == ' ') {
                    if (same && at == to) {
                        return number;
                    }
                    number++;
                    at = from;
                    same = true;
                } else {
                    same = same && at < to && tape[at] == c;
                    at++;
                }
            }
            return NO_WORD;
        }
    }

    /** CLAIMS, PROOFS, THE FUND and TODAY. */
    private static final class Claims {
        final int[] person = new int[CLAIMS];
        final int[] thing = new int[CLAIMS];
        final int[] made = new int[CLAIMS];
        /** What was PAID, or NONE. */
        final int[] paid = new int[CLAIMS];
        final int[] proofClaim = new int[PROOFS];
        /** The neighbour, or -1. */
        final int[] proofBy = new int[PROOFS];
        int count;
        int proofs;
        int fund;
        int today;

        boolean isClaimed(int byPerson, int aThing) {
            for (int c = 0; c < count; c++) {
                if (person[c] == byPerson && thing[c] == aThing) {
                    return true;
                }
            }
            return false;
        }

        int addClaim(int byPerson, int aThing) {
            int number = count;
            person[number] = byPerson;
            thing[number] = aThing;
            made[number] = today;
            paid[number] = NONE;
            count = number + 1;
            return number;
        }

        void addProof(int claim, int by) {
            proofClaim[proofs] = claim;
            proofBy[proofs] = by;
            proofs++;
        }

        /** Each neighbour counts once, shopbooks together once. */
        int proofsThatCount(int claim) {
            int bits = 0;
            for (int i = 0; i < proofs; i++) {
                if (proofClaim[i] == claim) {
                    bits |= 1 << (proofBy[i] + 1);
                }
            }
            return Integer.bitCount(bits);
        }

        void payClaim(int claim, int sum) {
            paid[claim] = sum;
            fund -= sum;
        }

        int countPaid() {
            int number = 0;
            for (int c = 0; c < count; c++) {
                if (paid[c] != NONE) {
                    number++;
                }
            }
            return number;
        }

        void copyFrom(Claims other) {
            System.arraycopy(other.person, 0, person, 0, CLAIMS);
            System.arraycopy(other.thing, 0, thing, 0, CLAIMS);
            System.arraycopy(other.made, 0, made, 0, CLAIMS);
            System.arraycopy(other.paid, 0, paid, 0, CLAIMS);
            System.arraycopy(other.proofClaim, 0, proofClaim, 0, PROOFS);
            System.arraycopy(other.proofBy, 0, proofBy, 0, PROOFS);
            count = other.count;
            proofs = other.proofs;
            fund = other.fund;
            today = other.today;
        }
    }

    /** What THE ACT says of CLAIMS; Nights.gather() goes ahead of all that looks at facts. */
    private static final class Law {
        /** Facts stand as the Reader numbers their words: worth is number 0. */
        private static final int PROOFS_FACT = 4;
        private static final int FELL_FACT = 6;
        private static final int FOUND_FACT = 7;
        private static final int FACTS = 8;
        /** Facts from this one on are looked at for LIKEST. */
        private static final int FIRST_LIKENESS = 2;

        private final Valley valley;
        private final Folk folk;
        private final Act act;
        private final Claims claims;
        private final Nights nights;
        private final int[] facts = new int[FACTS];
        private final int[] otherFacts = new int[FACTS];
        private final int[] ranks = new int[CLAIMS];
        private final int[] sums = new int[CLAIMS];
        /** The first CLAIM, the second one, how many differ. */
        final int[] likest = new int[3];

        Law(Valley valley, Folk folk, Act act, Claims claims, Nights nights) {
            this.valley = valley;
            this.folk = folk;
            this.act = act;
            this.claims = claims;
            this.nights = nights;
        }

        void takeFacts(int claim) {
            fillFacts(claim, facts);
        }

        private void fillFacts(int claim, int[] row) {
            int thing = claims.thing[claim];
            int person = claims.person[claim];
            int house = folk.thingHouse[thing];
            row[0] = folk.thingWorth[thing];
            row[1] = folk.thingSort[thing];
            row[2] = folk.personTrade[person];
            row[3] = folk.personKin[person];
            row[PROOFS_FACT] = claims.proofsThatCount(claim);
            row[5] = valley.houseReach[house];
            row[FELL_FACT] = nights.fallsInEach(house) ? 1 : 0;
            row[FOUND_FACT] = hasFind(thing) ? 1 : 0;
        }

        private boolean hasFind(int thing) {
            for (int f = 0; f < folk.finds; f++) {
                if (nights.canBe(f, thing)) {
                    return true;
                }
            }
            return false;
        }

        /** Of the CLAIM whose facts were taken, as are all that follow. */
        boolean isFound() {
            return facts[FOUND_FACT] == 1;
        }

        boolean isBarred(int version, int madeOn) {
            int late = lastNumber(version, Reader.LATE);
            int proofs = lastNumber(version, Reader.PROOF);
            return late != NONE && madeOn > late
                    || proofs != NONE && facts[PROOFS_FACT] < proofs
                    || firstLine(version, Reader.BAR) != NONE;
        }

        int owed(int version, int madeOn) {
            int line = firstLine(version, Reader.PAY);
            if (line == NONE || isBarred(version, madeOn)) {
                return 0;
            }
            return facts[0] * act.number[version * LINES + line] / 100;
        }

        int rank(int version) {
            int line = firstLine(version, Reader.RANK);
            return line == NONE ? 9 : act.number[version * LINES + line];
        }

        /** The first LINE with a verb whose COND holds, or NONE. */
        int firstLine(int version, int verb) {
            int lines = act.linesOf(version);
            for (int line = 0; line < lines; line++) {
                int at = version * LINES + line;
                if (act.verb[at] == verb && holds(version, act.codeFrom[at], act.codeTo[at])) {
                    return line;
                }
            }
            return NONE;
        }

        /** N of the latest LINE with a verb, or NONE. */
        private int lastNumber(int version, int verb) {
            for (int line = act.linesOf(version) - 1; line >= 0; line--) {
                int at = version * LINES + line;
                if (act.verb[at] == verb) {
                    return act.number[at];
                }
            }
            return NONE;
        }

        /** The truths that wait for what joins them stand as bits, the latest lowest. */
        private boolean holds(int version, int from, int to) {
            int truths = 1;
            for (int i = from; i < to; i++) {
                int code = act.code[version * CODES + i];
                int latest = truths & 1;
                switch (code) {
                    case Reader.NOT:
                        truths ^= 1;
                        break;
                    case Reader.AND:
                        truths = truths >> 1 & (latest | -2);
                        break;
                    case Reader.OR:
                        truths = truths >> 1 | latest;
                        break;
                    case Reader.FELL:
                        truths = truths << 1 | facts[FELL_FACT];
                        break;
                    case Reader.FOUND:
                        truths = truths << 1 | facts[FOUND_FACT];
                        break;
                    default:
                        truths = truths << 1 | (compares(code) ? 1 : 0);
                        break;
                }
            }
            return (truths & 1) == 1;
        }

        private boolean compares(int code) {
            int fact = (code & 255) - Reader.WORTH;
            int sign = code >> 8 & 255;
            int n = code >> 16;
            if (fact < 0 || fact >= FACTS) {
                return false;
            }
            return sign == '<' ? facts[fact] < n : sign == '>' ? facts[fact] > n : facts[fact] == n;
        }

        /** What is PAID hangs on nothing that pay itself changes but THE FUND. */
        int payByRanks() {
            int version = act.versionOn(claims.today);
            for (int c = 0; c < claims.count; c++) {
                takeFacts(c);
                ranks[c] = rank(version);
                sums[c] = owed(version, claims.made[c]);
            }
            int number = 0;
            for (int rank = 0; rank <= 9; rank++) {
                for (int c = 0; c < claims.count; c++) {
                    if (ranks[c] == rank && claims.paid[c] == NONE && sums[c] > 0
                            && claims.fund >= sums[c]) {
                        claims.payClaim(c, sums[c]);
                        number++;
                    }
                }
            }
            return number;
        }

        int housesOver() {
            int bits = 0;
            for (int h = 0; h < valley.houses; h++) {
                int worth = 0;
                for (int t = 0; t < folk.things; t++) {
                    if (folk.thingHouse[t] == h && claimants(t) > 0) {
                        worth += folk.thingWorth[t];
                    }
                }
                if (worth > valley.houseRoom[h]) {
                    bits |= 1 << h;
                }
            }
            return bits;
        }

        int thingsTwice() {
            int bits = 0;
            for (int t = 0; t < folk.things; t++) {
                if (claimants(t) > 1) {
                    bits |= 1 << t;
                }
            }
            return bits;
        }

        /** No PERSON CLAIMS a THING twice, so CLAIMS are claimants. */
        private int claimants(int thing) {
            int number = 0;
            for (int c = 0; c < claims.count; c++) {
                if (claims.thing[c] == thing) {
                    number++;
                }
            }
            return number;
        }

        void findLikest() {
            Arrays.fill(likest, NONE);
            int least = FACTS;
            for (int c = 0; c < claims.count; c++) {
                takeFacts(c);
                for (int d = c + 1; d < claims.count; d++) {
                    if (!areUnlike(c, d)) {
                        continue;
                    }
                    int differ = countDifferent(d);
                    if (differ < least) {
                        least = differ;
                        likest[0] = c;
                        likest[1] = d;
                        likest[2] = differ;
                    }
                }
            }
        }

        private boolean areUnlike(int c, int d) {
            int one = claims.thing[c];
            int other = claims.thing[d];
            return claims.paid[c] != NONE && claims.paid[d] != NONE
                    && claims.paid[c] != claims.paid[d]
                    && folk.thingSort[one] == folk.thingSort[other]
                    && folk.thingWorth[one] == folk.thingWorth[other];
        }

        private int countDifferent(int otherClaim) {
            fillFacts(otherClaim, otherFacts);
            int number = 0;
            for (int f = FIRST_LIKENESS; f < FACTS; f++) {
                if (facts[f] != otherFacts[f]) {
                    number++;
                }
            }
            return number;
        }
    }

    /** THE ROUND, and THE READER of it. */
    private static final class Tour {
        private final Valley valley;
        private final Folk folk;
        private final Claims claims;
        private final Nights nights;
        /** CLAIMS (bits), REACH and DAY of the latest round; no bits: there was none. */
        int asked;
        private int fromReach;
        private int fromDay;
        int rows;
        final int[] rowClaim = new int[ROUND_SIZE];
        final int[] rowDay = new int[ROUND_SIZE];
        /** CLAIMS that are asked, by numbers, with their REACHES and weights. */
        private int members;
        private final int[] member = new int[ROUND_SIZE];
        private final int[] memberReach = new int[ROUND_SIZE];
        private final int[] memberWeight = new int[ROUND_SIZE];
        /** What it costs at least from when a set of members was heard, one of them last. */
        private final int[] costFrom = new int[(1 << ROUND_SIZE) * ROUND_SIZE];

        Tour(Valley valley, Folk folk, Claims claims, Nights nights) {
            this.valley = valley;
            this.folk = folk;
            this.claims = claims;
            this.nights = nights;
        }

        /** Finds THE ROUND: its COST; Nights.gather() goes ahead. */
        int plan(int bits, int reach) {
            asked = bits;
            fromReach = reach;
            fromDay = claims.today;
            takeMembers();
            for (int heard = (1 << members) - 1; heard >= 1; heard--) {
                for (int last = 0; last < members; last++) {
                    costFrom[heard * ROUND_SIZE + last] = leastCost(heard, memberReach[last], 1);
                }
            }
            writeRows();
            return leastCost(0, reach, 0);
        }

        private void takeMembers() {
            members = 0;
            for (int c = 0; c < claims.count && members < ROUND_SIZE; c++) {
                if ((asked >> c & 1) == 1) {
                    int house = folk.thingHouse[claims.thing[c]];
                    member[members] = c;
                    memberReach[members] = valley.houseReach[house];
                    memberWeight[members] = nights.fallsInEach(house) ? 3 : 1;
                    members++;
                }
            }
        }

        /** The weight of all that are not heard yet. */
        private int waiting(int heard) {
            int weight = 0;
            for (int i = 0; i < members; i++) {
                if ((heard >> i & 1) == 0) {
                    weight += memberWeight[i];
                }
            }
            return weight;
        }

        /** What it costs if a member comes next: each DAY of the way weighs on all that wait. */
        private int costVia(int next, int heard, int days, int weight) {
            return days * weight + costFrom[(heard | 1 << next) * ROUND_SIZE + next];
        }

        /** The least COST of all that are not heard yet; more: DAYS beside those of the way. */
        private int leastCost(int heard, int reach, int more) {
            int weight = waiting(heard);
            int least = -1;
            for (int next = 0; next < members; next++) {
                if ((heard >> next & 1) == 0) {
                    int days = Math.abs(memberReach[next] - reach) + more;
                    int cost = costVia(next, heard, days, weight);
                    least = least < 0 || cost < least ? cost : least;
                }
            }
            return Math.max(least, 0);
        }

        /** Takes as the next one always the first by numbers with which the COST stays least. */
        private void writeRows() {
            int heard = 0;
            int reach = fromReach;
            int day = fromDay;
            for (int i = 0; i < members; i++) {
                int more = i == 0 ? 0 : 1;
                int next = bestNext(heard, reach, more);
                day += Math.abs(memberReach[next] - reach) + more;
                reach = memberReach[next];
                heard |= 1 << next;
                rowClaim[i] = member[next];
                rowDay[i] = day;
            }
            rows = members;
        }

        private int bestNext(int heard, int reach, int more) {
            int weight = waiting(heard);
            int least = leastCost(heard, reach, more);
            for (int next = 0; next < members; next++) {
                int days = Math.abs(memberReach[next] - reach) + more;
                if ((heard >> next & 1) == 0 && costVia(next, heard, days, weight) == least) {
                    return next;
                }
            }
            return 0;
        }

        /** The first row that is wrong, or how many there are if they are too few, or -1. */
        int firstWrongRow() {
            int heard = 0;
            int reach = fromReach;
            int day = fromDay;
            for (int i = 0; i < rows; i++) {
                int claim = rowClaim[i];
                if (!within(claim, 0, claims.count - 1) || (asked >> claim & 1) == 0
                        || (heard >> claim & 1) == 1) {
                    return i;
                }
                int next = valley.houseReach[folk.thingHouse[claims.thing[claim]]];
                day += Math.abs(next - reach) + (i == 0 ? 0 : 1);
                if (rowDay[i] != day) {
                    return i;
                }
                reach = next;
                heard |= 1 << claim;
            }
            return heard == asked ? -1 : rows;
        }
    }

    /** SHEETS, SHELVES, DEALS and THE TRACE. */
    private static final class Host {
        static final int HOLDS_NOTHING = 0;
        static final int HOLDS_ROW = 1;
        static final int HOLDS_CLAIM = 2;
        static final int HOLDS_SHEET = 3;

        private static final int FITS = 0;
        private static final int PAYS = 1;
        private static final int HANGS = 2;
        private static final int TELLS = 3;
        private static final int DEPTH_MOST = 30;

        /** The KIND under which each KIND stands. */
        private static final int[] ABOVE = {-1, 0, 0, 0, 3, 0, 5};
        /** The BODIES of each KIND by DEALS; 0: that of the KIND above. */
        private static final int[] BODIES = {
            10, 11, 12, 13,
            20, 0, 0, 0,
            0, 0, 30, 0,
            0, 40, 0, 41,
            50, 51, 0, 0,
            0, 0, 60, 61,
            71, 0, 70, 0,
        };

        private final Valley valley;
        private final Seen seen;
        private final Folk folk;
        private final Claims claims;
        /** -1: missing. */
        final int[] sheetSort = new int[SHEETS];
        final int[] sheetLength = new int[SHEETS];
        final int[] items = new int[SHEETS * SHEET_SIZE];
        private final int[] shelfHolds = new int[SHELVES];
        /** The number of a ROW or a CLAIM; the sort of a SHEET's row. */
        private final int[] shelfNumber = new int[SHELVES];
        private final int[] shelfLength = new int[SHELVES];
        final int[] trace = new int[TRACE_SIZE];
        int traced;
        /** Of the thing that is dealt with. */
        private int kind;
        private int n;
        private int r;
        private int a;
        private boolean isParted;

        Host(Valley valley, Seen seen, Folk folk, Claims claims) {
            this.valley = valley;
            this.seen = seen;
            this.folk = folk;
            this.claims = claims;
            Arrays.fill(sheetSort, -1);
        }

        void makeSheet(int sheet, int sort, int length) {
            sheetSort[sheet] = sort;
            sheetLength[sheet] = length;
            for (int i = 0; i < SHEET_SIZE; i++) {
                items[sheet * SHEET_SIZE + i] = 0;
            }
        }

        /** Why a SHEET can't be taken for a row of a sort, or 0. */
        int refusesSort(int sheet, int sort) {
            if (sheetSort[sheet] < 0) {
                return NOTHING;
            }
            return sheetSort[sheet] == sort ? 0 : OTHER_KIND;
        }

        boolean isTable(int sheet) {
            int length = sheetLength[sheet];
            if (!within(length, 1, TABLE_SIZE)) {
                return false;
            }
            for (int i = 0; i < length; i++) {
                if (!within(items[sheet * SHEET_SIZE + i], 0, 999)) {
                    return false;
                }
            }
            return true;
        }

        int putOnShelf(int shelf, int holds, int number) {
            shelfHolds[shelf] = holds;
            shelfNumber[shelf] = number;
            return 1;
        }

        /** A row stays as long as it is and of its sort, whatever becomes of the SHEET. */
        int putSheetOnShelf(int shelf, int sheet) {
            shelfLength[shelf] = sheetLength[sheet];
            boolean isThere = sheetSort[sheet] >= 0;
            return putOnShelf(shelf, isThere ? HOLDS_SHEET : HOLDS_NOTHING, sheetSort[sheet]);
        }

        int takenForSort(int shelf, int sort) {
            if (shelfHolds[shelf] == HOLDS_SHEET) {
                return shelfNumber[shelf] == sort ? shelfLength[shelf] : OTHER_KIND;
            }
            return kindOn(shelf) < 0 ? NOTHING : OTHER_KIND;
        }

        int takenForKind(int shelf, int as) {
            if (shelfHolds[shelf] == HOLDS_SHEET) {
                return OTHER_KIND;
            }
            int itsKind = kindOn(shelf);
            if (itsKind < 0) {
                return NOTHING;
            }
            return isUnder(itsKind, as) ? shelfNumber[shelf] : OTHER_KIND;
        }

        /** The KIND, as it is now, of what a SHELF holds, or -1 if that is none. */
        private int kindOn(int shelf) {
            int number = shelfNumber[shelf];
            if (shelfHolds[shelf] == HOLDS_ROW && number < seen.rows) {
                return seen.isDoubtedWord(number) ? KIND_DOUBTED : seen.kind[number];
            }
            if (shelfHolds[shelf] == HOLDS_CLAIM && number < claims.count) {
                return claims.paid[number] == NONE ? KIND_CLAIM : KIND_PAID;
            }
            return -1;
        }

        private static boolean isUnder(int itsKind, int as) {
            int at = itsKind;
            for (int i = 0; i < KINDS && at > KIND_ROW && at != as; i++) {
                at = ABOVE[at];
            }
            return at == as;
        }

        /** A DEAL with the thing on a SHELF; 0 if there is none. */
        int dealWith(int shelf, int deal, int x) {
            kind = kindOn(shelf);
            if (kind < 0) {
                return 0;
            }
            n = shelfNumber[shelf];
            if (shelfHolds[shelf] == HOLDS_ROW) {
                r = seen.place[n];
                a = seen.main[n];
            } else {
                int thing = claims.thing[n];
                r = valley.houseReach[folk.thingHouse[thing]];
                a = folk.thingWorth[thing];
            }
            isParted = false;
            int answer = run(kind, deal, x, 0);
            return isParted ? PARTED_BY_ZERO : answer;
        }

        /** Runs the BODY that a KIND has for a DEAL, or the nearest one above it. */
        private int run(int from, int deal, int x, int depth) {
            int at = from;
            for (int i = 0; i < KINDS && at > KIND_ROW && BODIES[at * DEALS + deal] == 0; i++) {
                at = ABOVE[at];
            }
            if (at < KIND_ROW || depth > DEPTH_MOST) {
                return 0;
            }
            int body = BODIES[at * DEALS + deal];
            note(body);
            int up = ABOVE[at];
            int next = depth + 1;
            switch (body) {
                case 10: return x + a;
                case 11: return run(kind, FITS, x, next) * 2;
                case 12: return run(kind, PAYS, x, next) - r;
                case 13: return parted(x);
                case 20: return run(up, FITS, x, next) ^ n;
                case 30: return run(up, HANGS, x, next) + run(kind, FITS, 1, next);
                case 40: return 0 - run(up, PAYS, x, next);
                case 41: return run(up, TELLS, x + 3, next);
                case 50: return run(up, FITS, x - 1, next);
                case 51: return run(up, PAYS, x, next) * 3;
                case 60: return run(up, HANGS, x, next) * 2;
                case 61: return 0 - run(up, TELLS, x, next);
                case 70: return run(up, HANGS, x, next) + run(kind, PAYS, n, next);
                case 71: return run(up, FITS, x, next) + 5;
                default: return 0;
            }
        }

        private int parted(int x) {
            if (r == n) {
                isParted = true;
                return 0;
            }
            return x / (r - n);
        }

        private void note(int body) {
            if (traced < TRACE_SIZE) {
                trace[traced] = body;
                traced++;
            }
        }
    }
}
