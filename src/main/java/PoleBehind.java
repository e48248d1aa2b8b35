import java.util.Arrays;

/**
 * A river told in a text, plans by which a boat is poled along it, and the sheets of numbers that
 * texts and plans are read from. What each call answers is told by the promises of DOC.md.
 */
public final class PoleBehind {
    public static final int UNKNOWN = -1, OUTSIDE = -2, STATE = -3, FULL = -4, NONE = -9;
    public static final long LOST = Long.MIN_VALUE;

    private static final int NO_FAULT = 0, NULL = 1, CAST = 2, INDEX = 3, SIZE = 4;
    private static final int TAKEN = 0;

    private static final int SHEETS = 4, MOST_NUMBERS = 60;
    private static final int NO_LANE = -1, BYTES = 0, SHORTS = 1, INTS = 2;

    private static final int GRAVEL = 0, MUDDY = 1, CLAY = 2;
    private static final int FEWEST_CELLS = 2, MOST_CELLS = 16, MOST_MUD = 9, MOST_HOLDS = 9;
    private static final int NO_CELL = -1;

    private static final int PUSH = 0, TRAIL = 1, TWIST = 2, PADDLE = 3;
    private static final int MOST_PACE = 3, PACES = MOST_PACE + 1;
    private static final int MOST_PLANNED = 18, MOST_SURE = 12, MOST_WAYS = 7, MOST_SHARED = 9;
    private static final int MOST_PARTS = 1000000000;

    /** Where the boat is and how fast, in one number: four times the cell, and the pace. */
    private static final int SPOTS = MOST_CELLS * PACES;
    private static final int NO_SPOT = -1;

    private static final int MOST_READINGS = 8, LAST_READ_TURN = 12;

    private final Row[] sheets = new Row[SHEETS];
    private River water = new River();
    private River draft = new River();
    private final TextReader reader = new TextReader();
    private final Journey journey = new Journey();
    private final Readings readings = new Readings();
    private final SureTable sureTable = new SureTable();
    private final WayTable wayTable = new WayTable();
    private int traced;
    private int lastFault;

    public PoleBehind() {
        for (int k = 0; k < SHEETS; k++) {
            sheets[k] = new Row();
        }
    }

    // ---- 1 the river

    public int river(int sheet, int lane, int i, int n) {
        lastFault = NO_FAULT;
        Row row = rowOf(sheet);
        if (row == null) {
            return UNKNOWN;
        }
        if (!isLane(lane)) {
            return OUTSIDE;
        }
        int fault = row.faultAs(lane);
        if (fault != NO_FAULT) {
            return failed(fault);
        }
        if (n < 0) {
            return failed(SIZE);
        }
        if (!row.hasStretch(i, n)) {
            return failed(INDEX);
        }
        int firstFault = reader.firstFault(row, i, n, draft);
        if (firstFault != NONE) {
            return -100 - firstFault;
        }
        takeDraft();
        return water.count;
    }

    public int ofCell(int c, int what) {
        if (!water.has(c)) {
            return UNKNOWN;
        }
        switch (what) {
            case 0: return water.kindOf(c);
            case 1: return water.mudOf(c);
            case 2: return water.holdsIn(c);
            case 3: return asBit(water.isDeep(c));
            case 4: return asBit(water.isBridged(c));
            default: return OUTSIDE;
        }
    }

    public int pace(int v) {
        if (v < 0 || v > MOST_PACE) {
            return OUTSIDE;
        }
        if (water.isNone()) {
            return STATE;
        }
        int was = water.paceAtFirst;
        water.paceAtFirst = v;
        return was;
    }

    public int bridge(int c, boolean is) {
        if (!water.has(c)) {
            return UNKNOWN;
        }
        if (water.isBridged(c) == is) {
            return 0;
        }
        water.setBridged(c, is);
        sureTable.forget();
        return 1;
    }

    /** The river that was is written over by the next text, so that no text needs new rows. */
    private void takeDraft() {
        River old = water;
        water = draft;
        draft = old;
        readings.count = 0;
        sureTable.forget();
    }

    // ---- 2 plans

    public int plan(int sheet, int lane, int i, int n, int what) {
        int answer = travel(sheet, lane, i, n, what >= 0 && what <= 2);
        if (answer != TAKEN) {
            return answer;
        }
        if (what == 1) {
            return journey.firstWrong;
        }
        if (journey.firstWrong != NONE) {
            return -100 - journey.firstWrong;
        }
        return what == 0 ? cellOf(journey.spot) : paceOf(journey.spot);
    }

    public long dry(int sheet, int lane, int i, int n, int which) {
        int answer = travel(sheet, lane, i, n, isUpperOrLower(which));
        if (answer != TAKEN || journey.firstWrong != NONE) {
            return LOST;
        }
        return inLeastTerms(journey.dryParts(water, NO_CELL, 0), tenTo(n), which);
    }

    private int travel(int sheet, int lane, int i, int n, boolean asksAsTold) {
        lastFault = NO_FAULT;
        Row row = rowOf(sheet);
        if (row == null) {
            return UNKNOWN;
        }
        if (!isLane(lane) || n < 0 || n > MOST_PLANNED || !asksAsTold) {
            return OUTSIDE;
        }
        if (water.isNone()) {
            return STATE;
        }
        return carryOut(row, lane, i, n);
    }

    private int carryOut(Row row, int lane, int i, int n) {
        int fault = row.faultAs(lane);
        if (fault != NO_FAULT) {
            return failed(fault);
        }
        if (!row.hasStretch(i, n)) {
            return failed(INDEX);
        }
        if (!journey.readActs(row, i, n)) {
            return OUTSIDE;
        }
        journey.go(water);
        return TAKEN;
    }

    // ---- 3 the soonest, the surest

    public int soonest() {
        if (water.isNone()) {
            return STATE;
        }
        return water.fewestTurns();
    }

    public int surest(int n, int q) {
        if (n < 1 || n > MOST_SURE || q < -1 || q >= MOST_SURE) {
            return OUTSIDE;
        }
        if (water.isNone()) {
            return STATE;
        }
        sureTable.fill(water);
        int turns = sureTable.surestTurns(water, n);
        if (turns == 0) {
            return NONE;
        }
        return q == -1 ? turns : sureTable.actOf(water, turns, q);
    }

    public long sure(int n, int which) {
        if (n < 1 || n > MOST_SURE || !isUpperOrLower(which) || water.isNone()) {
            return LOST;
        }
        sureTable.fill(water);
        int turns = sureTable.surestTurns(water, n);
        if (turns == 0) {
            return inLeastTerms(0L, 1L, which);
        }
        return inLeastTerms(sureTable.bestOf(turns, water.start()), tenTo(turns), which);
    }

    public int cost(int c) {
        if (!water.has(c)) {
            return UNKNOWN;
        }
        if (!water.isBridged(c)) {
            return 0;
        }
        int with = water.fewestTurns();
        water.setBridged(c, false);
        int without = water.fewestTurns();
        water.setBridged(c, true);
        return with == NONE || without == NONE ? NONE : with - without;
    }

    // ---- 4 what was seen

    public int reading(int t, int c) {
        if (!water.has(c)) {
            return UNKNOWN;
        }
        if (t < 1 || t > LAST_READ_TURN) {
            return OUTSIDE;
        }
        if (readings.count >= MOST_READINGS) {
            return FULL;
        }
        readings.add(t, c);
        return readings.count - 1;
    }

    public int back(int k) {
        if (k < 0 || k > readings.count) {
            return OUTSIDE;
        }
        readings.count -= k;
        return readings.count;
    }

    public int ways(int n, int q) {
        if (n < 0 || n > MOST_WAYS || q < -1 || q >= MOST_WAYS) {
            return OUTSIDE;
        }
        if (water.isNone()) {
            return STATE;
        }
        wayTable.fill(water, readings, n);
        int many = wayTable.waysFrom(0, water.start());
        if (q == -1) {
            return many;
        }
        return many == 0 ? NONE : wayTable.actOf(water, n, q);
    }

    public int kinds(int c, int sheet, int lane, int i, int n, int up) {
        int answer = travelFor(c, sheet, lane, i, n, up);
        if (answer != TAKEN) {
            return answer;
        }
        int set = 0;
        for (int kind = GRAVEL; kind <= CLAY; kind++) {
            int holds = water.holdsIf(c, kind, water.mudOf(c));
            if (journey.dryParts(water, c, holds) == up) {
                set |= 1 << kind;
            }
        }
        return set;
    }

    public int muds(int c, int sheet, int lane, int i, int n, int up) {
        int answer = travelFor(c, sheet, lane, i, n, up);
        if (answer != TAKEN) {
            return answer;
        }
        int set = 0;
        for (int mud = 0; mud <= MOST_MUD; mud++) {
            int holds = water.holdsIf(c, water.kindOf(c), mud);
            if (journey.dryParts(water, c, holds) == up) {
                set |= 1 << mud;
            }
        }
        return set;
    }

    public long odds(int sheet, int lane, int i, int n, int which) {
        int answer = travel(sheet, lane, i, n, isUpperOrLower(which));
        if (answer != TAKEN || journey.firstWrong != NONE) {
            return LOST;
        }
        // Each cell that the pole goes into must be one that never holds: half of all the cases.
        return inLeastTerms(1L, 1L << journey.poledCells(), which);
    }

    private int travelFor(int c, int sheet, int lane, int i, int n, int up) {
        lastFault = NO_FAULT;
        Row row = rowOf(sheet);
        if (!water.has(c) || row == null) {
            return UNKNOWN;
        }
        if (!isLane(lane) || n < 0 || n > MOST_SHARED || up < 0 || up > MOST_PARTS) {
            return OUTSIDE;
        }
        int answer = carryOut(row, lane, i, n);
        if (answer == TAKEN && journey.firstWrong != NONE) {
            return -100 - journey.firstWrong;
        }
        return answer;
    }

    // ---- 5 sheets, parts

    public int sheet(int k, int lane, int n) {
        lastFault = NO_FAULT;
        Row row = rowOf(k);
        if (row == null) {
            return UNKNOWN;
        }
        if (!isLane(lane) || n > MOST_NUMBERS) {
            return OUTSIDE;
        }
        if (n < 0) {
            return failed(SIZE);
        }
        row.begin(lane, n);
        return 1;
    }

    public int lose(int k) {
        Row row = rowOf(k);
        if (row == null) {
            return UNKNOWN;
        }
        int had = asBit(!row.isNothing());
        row.begin(NO_LANE, 0);
        return had;
    }

    public int put(int k, int i, int v) {
        lastFault = NO_FAULT;
        Row row = rowOf(k);
        if (row == null) {
            return UNKNOWN;
        }
        if (row.isNothing()) {
            return failed(NULL);
        }
        if (!row.has(i)) {
            return failed(INDEX);
        }
        row.become(i, v);
        return 1;
    }

    public long cell(int k, int i, int lane) {
        lastFault = NO_FAULT;
        Row row = rowOf(k);
        if (row == null || !isLane(lane)) {
            return LOST;
        }
        int fault = row.faultAs(lane);
        if (fault == NO_FAULT && !row.has(i)) {
            fault = INDEX;
        }
        if (fault != NO_FAULT) {
            lastFault = fault;
            return LOST;
        }
        return row.at(i);
    }

    public int copy(int k, int i, int other, int j, int n) {
        lastFault = NO_FAULT;
        Row from = rowOf(k);
        Row to = rowOf(other);
        if (from == null || to == null) {
            return UNKNOWN;
        }
        if (from.isNothing() || to.isNothing()) {
            return failed(NULL);
        }
        if (from.lane != to.lane) {
            return failed(CAST);
        }
        if (!from.hasStretch(i, n) || !to.hasStretch(j, n)) {
            return failed(INDEX);
        }
        System.arraycopy(from.numbers, i, to.numbers, j, n);
        return n;
    }

    public int tell(int c) {
        if (!water.has(c)) {
            return UNKNOWN;
        }
        switch (water.kindOf(c)) {
            case CLAY: return clayTelling(c);
            case MUDDY: return muddyTelling(c);
            default: return gravelTelling(c);
        }
    }

    public int sound(int c) {
        if (!water.has(c)) {
            return UNKNOWN;
        }
        if (water.kindOf(c) == CLAY) {
            leaveTrace(5);
            return 50;
        }
        leaveTrace(4);
        return c;
    }

    public int as(int c, int kind) {
        lastFault = NO_FAULT;
        if (!water.has(c)) {
            return UNKNOWN;
        }
        if (kind < GRAVEL || kind > CLAY) {
            return OUTSIDE;
        }
        // Each kind is one of all the kinds ahead of it, too.
        return water.kindOf(c) >= kind ? 1 : failed(CAST);
    }

    public int trace() {
        return traced;
    }

    public int fault() {
        return lastFault;
    }

    public int many(int what) {
        switch (what) {
            case 0: return water.count;
            case 1: return water.paceAtFirst;
            case 2: return water.bridgeCount();
            case 3: return readings.count;
            default: return OUTSIDE;
        }
    }

    private int gravelTelling(int c) {
        leaveTrace(1);
        return water.mudOf(c);
    }

    private int muddyTelling(int c) {
        leaveTrace(2);
        return gravelTelling(c) + 100;
    }

    private int clayTelling(int c) {
        leaveTrace(3);
        int asMuddy = muddyTelling(c);
        return asMuddy + gravelTelling(c);
    }

    private void leaveTrace(int number) {
        traced = 31 * traced + number;
    }

    private int failed(int fault) {
        lastFault = fault;
        return -10 - fault;
    }

    private Row rowOf(int k) {
        return k >= 0 && k < sheets.length ? sheets[k] : null;
    }

    private static boolean isLane(int lane) {
        return lane >= BYTES && lane <= INTS;
    }

    private static boolean isUpperOrLower(int which) {
        return which == 0 || which == 1;
    }

    private static int asBit(boolean is) {
        return is ? 1 : 0;
    }

    private static int cellOf(int spot) {
        return spot / PACES;
    }

    private static int paceOf(int spot) {
        return spot % PACES;
    }

    private static long tenTo(int n) {
        long power = 1L;
        for (int k = 0; k < n; k++) {
            power *= 10L;
        }
        return power;
    }

    private static long inLeastTerms(long upper, long lower, int which) {
        long divisor = upper;
        long rest = lower;
        // Of two longs no more than some ninety remainders can be taken.
        for (int k = 0; k < 200 && rest != 0L; k++) {
            long next = divisor % rest;
            divisor = rest;
            rest = next;
        }
        long told = which == 0 ? upper : lower;
        return divisor > 1L ? told / divisor : told;
    }

    /** Of ten tenths those by which the pole does not stay at an act in a cell. */
    private static int dryTenths(int act, int holds) {
        switch (act) {
            case PUSH: return 10 - holds;
            case TWIST: return 10 - holds / 2;
            default: return 10;
        }
    }

    /** What a sheet has. Its numbers are made once, as a sheet may get a new row by every call. */
    private static final class Row {
        private final int[] numbers = new int[MOST_NUMBERS];
        private int lane = NO_LANE;
        private int length;

        boolean isNothing() {
            return lane == NO_LANE;
        }

        void begin(int newLane, int newLength) {
            Arrays.fill(numbers, 0);
            lane = newLane;
            length = Math.max(0, Math.min(newLength, MOST_NUMBERS));
        }

        int faultAs(int wantedLane) {
            if (isNothing()) {
                return NULL;
            }
            return lane == wantedLane ? NO_FAULT : CAST;
        }

        boolean has(int i) {
            return i >= 0 && i < length;
        }

        boolean hasStretch(int i, int n) {
            return i >= 0 && i <= length && n >= 0 && n <= length - i;
        }

        int at(int i) {
            return has(i) ? numbers[i] : 0;
        }

        void become(int i, int v) {
            if (has(i)) {
                numbers[i] = cutToLane(v);
            }
        }

        private int cutToLane(int v) {
            switch (lane) {
                case BYTES: return (byte) v;
                case SHORTS: return (short) v;
                default: return v;
            }
        }
    }

    /** The cells, and how the boat goes from one to another. Without cells there is no river. */
    private static final class River {
        private final int[] kindRow = new int[MOST_CELLS];
        private final int[] mudRow = new int[MOST_CELLS];
        private final boolean[] deepRow = new boolean[MOST_CELLS];
        private final boolean[] bridgeRow = new boolean[MOST_CELLS];
        private int count;
        private int paceAtFirst;

        boolean isNone() {
            return count == 0;
        }

        boolean has(int c) {
            return c >= 0 && c < count;
        }

        void clear() {
            count = 0;
            paceAtFirst = 0;
        }

        void add(int kind, boolean deep) {
            if (count < MOST_CELLS) {
                kindRow[count] = kind;
                mudRow[count] = 0;
                deepRow[count] = deep;
                bridgeRow[count] = false;
                count++;
            }
        }

        void setMud(int c, int mud) {
            if (has(c)) {
                mudRow[c] = mud;
            }
        }

        void setBridged(int c, boolean is) {
            if (has(c)) {
                bridgeRow[c] = is;
            }
        }

        int kindOf(int c) {
            return has(c) ? kindRow[c] : GRAVEL;
        }

        int mudOf(int c) {
            return has(c) ? mudRow[c] : 0;
        }

        boolean isDeep(int c) {
            return has(c) && deepRow[c];
        }

        boolean isBridged(int c) {
            return has(c) && bridgeRow[c];
        }

        int bridgeCount() {
            int bridges = 0;
            for (int c = 0; c < count; c++) {
                bridges += asBit(isBridged(c));
            }
            return bridges;
        }

        int holdsIn(int c) {
            return holdsIf(c, kindOf(c), mudOf(c));
        }

        int holdsIf(int c, int kind, int mud) {
            if (!has(c) || deepRow[c]) {
                return 0;
            }
            switch (kind) {
                case CLAY: return Math.min(2 * (mud + 1), MOST_HOLDS);
                case MUDDY: return Math.min(mud + 1, MOST_HOLDS);
                default: return Math.min(mud, MOST_HOLDS);
            }
        }

        int start() {
            return paceAtFirst;
        }

        int spots() {
            return count * PACES;
        }

        private int tea() {
            return count - 1;
        }

        boolean isAtTea(int spot) {
            return cellOf(spot) == tea();
        }

        int after(int spot, int act) {
            int from = cellOf(spot);
            boolean needsGround = act == PUSH || act == TWIST;
            if (spot < 0 || from >= tea() || needsGround && isDeep(from)) {
                return NO_SPOT;
            }
            int newPace = paceAfter(paceOf(spot), act);
            int to = Math.min(from + newPace, tea());
            if (newPace > 1 && hasBridgeWithin(from + 1, to)) {
                return NO_SPOT;
            }
            return to * PACES + newPace;
        }

        private static int paceAfter(int oldPace, int act) {
            switch (act) {
                case PUSH: return Math.min(oldPace + 1, MOST_PACE);
                case TRAIL: return Math.max(oldPace - 1, 0);
                case TWIST: return Math.max(oldPace, 1);
                default: return 1;
            }
        }

        private boolean hasBridgeWithin(int first, int last) {
            for (int c = Math.max(first, 0); c <= last && c < count; c++) {
                if (bridgeRow[c]) {
                    return true;
                }
            }
            return false;
        }

        /** Goes on with all spots at once, a bit of a long for each of the 64. */
        int fewestTurns() {
            long reached = 1L << start();
            long atTea = 15L << (tea() * PACES);
            for (int turn = 1; turn <= SPOTS; turn++) {
                reached = allAfter(reached);
                if ((reached & atTea) != 0L) {
                    return turn;
                }
            }
            return NONE;
        }

        private long allAfter(long reached) {
            long next = 0L;
            for (int spot = 0; spot < spots(); spot++) {
                if ((reached >>> spot & 1L) != 0L) {
                    next |= eachAfter(spot);
                }
            }
            return next;
        }

        private long eachAfter(int spot) {
            long next = 0L;
            for (int act = PUSH; act <= PADDLE; act++) {
                int to = after(spot, act);
                if (to != NO_SPOT) {
                    next |= 1L << to;
                }
            }
            return next;
        }
    }

    /** Reads a text into a river, code by code; each stage is what the next code may be. */
    private static final class TextReader {
        private static final int AT_P = 0, AT_PACE = 1, AT_LETTER = 2, AT_MUD = 3;
        private static final int BEHIND_CELL = 4, BEHIND_BRIDGE = 5;

        private int stage;

        int firstFault(Row row, int i, int n, River river) {
            river.clear();
            stage = AT_P;
            for (int k = 0; k < n; k++) {
                if (!goesOn(row.at(i + k), river)) {
                    return k;
                }
            }
            boolean isBehindCell = stage == BEHIND_CELL || stage == BEHIND_BRIDGE;
            return isBehindCell && river.count >= FEWEST_CELLS ? NONE : n;
        }

        private boolean goesOn(int code, River river) {
            switch (stage) {
                case AT_P:
                    stage = AT_PACE;
                    return code == 'p';
                case AT_PACE:
                    return goesOnByPace(code - '0', river);
                case AT_MUD:
                    return goesOnByMud(code - '0', river);
                case BEHIND_CELL:
                    return code == '^' ? goesOnByBridge(river) : goesOnByLetter(code, river);
                default:
                    return goesOnByLetter(code, river);
            }
        }

        private boolean goesOnByPace(int digit, River river) {
            if (digit < 0 || digit > MOST_PACE) {
                return false;
            }
            river.paceAtFirst = digit;
            stage = AT_LETTER;
            return true;
        }

        private boolean goesOnByMud(int digit, River river) {
            if (digit < 0 || digit > MOST_MUD) {
                return false;
            }
            river.setMud(river.count - 1, digit);
            stage = BEHIND_CELL;
            return true;
        }

        private boolean goesOnByBridge(River river) {
            river.setBridged(river.count - 1, true);
            stage = BEHIND_BRIDGE;
            return true;
        }

        private boolean goesOnByLetter(int code, River river) {
            switch (code) {
                case 'g': return goesOnByCell(GRAVEL, false, river);
                case 'm': return goesOnByCell(MUDDY, false, river);
                case 'c': return goesOnByCell(CLAY, false, river);
                case 'd': return goesOnByCell(GRAVEL, true, river);
                default: return false;
            }
        }

        private boolean goesOnByCell(int kind, boolean deep, River river) {
            if (river.count >= MOST_CELLS) {
                return false;
            }
            river.add(kind, deep);
            stage = deep ? BEHIND_CELL : AT_MUD;
            return true;
        }
    }

    /** A plan as it is carried out: its acts, and the cell in which each of them is done. */
    private static final class Journey {
        private final int[] acts = new int[MOST_PLANNED];
        private final int[] cells = new int[MOST_PLANNED];
        private int turns;
        private int firstWrong = NONE;
        private int spot;

        boolean readActs(Row row, int i, int n) {
            turns = Math.max(0, Math.min(n, MOST_PLANNED));
            for (int t = 0; t < turns; t++) {
                int act = row.at(i + t);
                if (act < PUSH || act > PADDLE) {
                    return false;
                }
                acts[t] = act;
            }
            return true;
        }

        void go(River river) {
            spot = river.start();
            firstWrong = NONE;
            for (int t = 0; t < turns; t++) {
                int next = river.after(spot, acts[t]);
                if (next == NO_SPOT) {
                    firstWrong = t;
                    return;
                }
                cells[t] = cellOf(spot);
                spot = next;
            }
        }

        /** Of 10 to the turns those parts by which one is dry, if one cell holds otherwise. */
        long dryParts(River river, int changed, int changedHolds) {
            long parts = 1L;
            for (int t = 0; t < turns; t++) {
                int c = cells[t];
                parts *= dryTenths(acts[t], c == changed ? changedHolds : river.holdsIn(c));
            }
            return parts;
        }

        int poledCells() {
            int poled = 0;
            for (int t = 0; t < turns; t++) {
                if (acts[t] == PUSH || acts[t] == TWIST) {
                    poled |= 1 << cells[t];
                }
            }
            return Integer.bitCount(poled);
        }
    }

    private static final class Readings {
        private final int[] turnRow = new int[MOST_READINGS];
        private final int[] cellRow = new int[MOST_READINGS];
        private int count;

        void add(int turn, int c) {
            if (count >= 0 && count < MOST_READINGS) {
                turnRow[count] = turn;
                cellRow[count] = c;
                count++;
            }
        }

        boolean allow(int turn, int c) {
            for (int k = 0; k < count && k < MOST_READINGS; k++) {
                if (turnRow[k] == turn && cellRow[k] != c) {
                    return false;
                }
            }
            return true;
        }
    }

    /** For each spot how likely, at best, one comes dry to the tea in just so many turns. */
    private static final class SureTable {
        private final long[] best = new long[(MOST_SURE + 1) * SPOTS];
        private boolean stands;

        /** The table outlasts a call, as twelve acts are asked for one by one. */
        void forget() {
            stands = false;
        }

        void fill(River river) {
            if (stands) {
                return;
            }
            Arrays.fill(best, 0L);
            for (int spot = 0; spot < river.spots() && spot < SPOTS; spot++) {
                best[spot] = river.isAtTea(spot) ? 1L : 0L;
            }
            for (int turns = 1; turns <= MOST_SURE; turns++) {
                for (int spot = 0; spot < river.spots() && spot < SPOTS; spot++) {
                    best[turns * SPOTS + spot] = bestByAnyAct(river, spot, turns);
                }
            }
            stands = true;
        }

        int surestTurns(River river, int n) {
            long most = 0L;
            int turns = 0;
            for (int k = 1; k <= n; k++) {
                long parts = bestOf(k, river.start()) * tenTo(MOST_SURE - k);
                if (parts > most) {
                    most = parts;
                    turns = k;
                }
            }
            return turns;
        }

        int actOf(River river, int turns, int q) {
            int spot = river.start();
            for (int t = 0; t < turns; t++) {
                int act = firstBestAct(river, spot, turns - t);
                if (t == q) {
                    return act;
                }
                spot = river.after(spot, act);
            }
            return NONE;
        }

        /** Parts of 10 to the turns; 0 where no plan comes to the tea, as no act is surely wet. */
        long bestOf(int turns, int spot) {
            int place = turns * SPOTS + spot;
            boolean isThere = turns >= 0 && spot >= 0 && spot < SPOTS && place < best.length;
            return isThere ? best[place] : 0L;
        }

        private long bestByAnyAct(River river, int spot, int turns) {
            long most = 0L;
            for (int act = PUSH; act <= PADDLE; act++) {
                most = Math.max(most, bestByAct(river, spot, act, turns));
            }
            return most;
        }

        private long bestByAct(River river, int spot, int act, int turns) {
            int to = river.after(spot, act);
            if (to == NO_SPOT) {
                return 0L;
            }
            return dryTenths(act, river.holdsIn(cellOf(spot))) * bestOf(turns - 1, to);
        }

        private int firstBestAct(River river, int spot, int turns) {
            long most = bestOf(turns, spot);
            for (int act = PUSH; act <= PADDLE; act++) {
                if (bestByAct(river, spot, act, turns) == most) {
                    return act;
                }
            }
            return NONE;
        }
    }

    /** For each turn and each spot behind it how many plans go on from there as was seen. */
    private static final class WayTable {
        private final int[] ways = new int[(MOST_WAYS + 1) * SPOTS];

        void fill(River river, Readings seen, int n) {
            Arrays.fill(ways, 0);
            for (int t = Math.min(n, MOST_WAYS); t >= 0; t--) {
                for (int spot = 0; spot < river.spots() && spot < SPOTS; spot++) {
                    if (seen.allow(t, cellOf(spot))) {
                        ways[t * SPOTS + spot] = t == n ? 1 : waysByAnyAct(river, t, spot);
                    }
                }
            }
        }

        int waysFrom(int t, int spot) {
            int place = t * SPOTS + spot;
            boolean isThere = t >= 0 && spot >= 0 && spot < SPOTS && place < ways.length;
            return isThere ? ways[place] : 0;
        }

        int actOf(River river, int n, int q) {
            int spot = river.start();
            for (int t = 0; t < n; t++) {
                int act = firstActWithWays(river, t, spot);
                if (t == q) {
                    return act;
                }
                spot = river.after(spot, act);
            }
            return NONE;
        }

        private int waysByAnyAct(River river, int t, int spot) {
            int sum = 0;
            for (int act = PUSH; act <= PADDLE; act++) {
                sum += waysFrom(t + 1, river.after(spot, act));
            }
            return sum;
        }

        private int firstActWithWays(River river, int t, int spot) {
            for (int act = PUSH; act <= PADDLE; act++) {
                if (waysFrom(t + 1, river.after(spot, act)) > 0) {
                    return act;
                }
            }
            return NONE;
        }
    }
}
