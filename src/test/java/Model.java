import java.math.BigInteger;
import java.util.ArrayList;
import java.util.Arrays;
import java.util.HashMap;
import java.util.HashSet;
import java.util.List;
import java.util.Map;
import java.util.Set;
import java.util.regex.Matcher;
import java.util.regex.Pattern;

/**
 * The document done another way, to compare with: sheets are real rows whose faults the machine
 * itself finds, a text is matched by a pattern, kinds are classes, plans are tried out one by one.
 */
final class Model {
    static final int UNKNOWN = -1, OUTSIDE = -2, STATE = -3, FULL = -4, NONE = -9;
    static final long LOST = Long.MIN_VALUE;

    private static final Pattern TEXT = Pattern.compile("p[0-3](?:(?:d|[gmc][0-9])\\^?){2,16}");

    /** A fault of the machine, or a refusal: the answer that the call then gives. */
    private static final class Refused extends Exception {
        private static final long serialVersionUID = 1L;
        final int answer;

        Refused(int answer) {
            super(null, null, false, false);
            this.answer = answer;
        }
    }

    private class Gravel {
        int mud;
        boolean deep;
        boolean bridged;

        int kind() {
            return 0;
        }

        int raw() {
            return mud;
        }

        final int holds() {
            return deep ? 0 : Math.min(9, raw());
        }

        int telling() {
            return gravelBody();
        }

        final int gravelBody() {
            trace = trace * 31 + 1;
            return mud;
        }

        int sounding(int number) {
            trace = trace * 31 + 4;
            return number;
        }
    }

    private class Muddy extends Gravel {
        @Override
        int kind() {
            return 1;
        }

        @Override
        int raw() {
            return mud + 1;
        }

        @Override
        int telling() {
            trace = trace * 31 + 2;
            return super.telling() + 100;
        }
    }

    private class Clay extends Muddy {
        @Override
        int kind() {
            return 2;
        }

        @Override
        int raw() {
            return super.raw() * 2;
        }

        @Override
        int telling() {
            trace = trace * 31 + 3;
            return super.telling() + gravelBody();
        }

        @Override
        int sounding(int number) {
            trace = trace * 31 + 5;
            return 50;
        }
    }

    private record Boat(int cell, int pace) {
    }

    /** How likely a plan of some turns is, as so many parts of 10 to the turns, and its acts. */
    private record Way(BigInteger parts, List<Integer> acts) {
    }

    private List<Gravel> cells = new ArrayList<>();
    private int paceAtFirst;
    private final List<int[]> readings = new ArrayList<>();
    private final Object[] sheets = new Object[4];
    private int trace;
    private int fault;

    // ---- sheets

    private Object sheetOf(int k) throws Refused {
        need(k >= 0 && k < 4, UNKNOWN);
        return sheets[k];
    }

    private static void need(boolean is, int answer) throws Refused {
        if (!is) {
            throw new Refused(answer);
        }
    }

    private static Object castTo(Object row, int lane) {
        switch (lane) {
            case 0: return (byte[]) row;
            case 1: return (short[]) row;
            default: return (int[]) row;
        }
    }

    private static Object newRow(int lane, int n) {
        switch (lane) {
            case 0: return new byte[n];
            case 1: return new short[n];
            default: return new int[n];
        }
    }

    /** Cells of a sheet as the machine takes them: cast, then null, then size, then index. */
    private static int[] taken(Object sheet, int lane, int i, int n) {
        Object row = castTo(sheet, lane);
        if (row == null) {
            throw new NullPointerException();
        }
        // No sheet is so long: a length that no room could hold is still an index's fault.
        Object part = newRow(lane, Math.min(n, 1000));
        System.arraycopy(row, i, part, 0, n);
        int[] numbers = new int[n];
        for (int k = 0; k < n; k++) {
            numbers[k] = java.lang.reflect.Array.getInt(part, k);
        }
        return numbers;
    }

    private int faulted(RuntimeException of) {
        if (of instanceof NullPointerException) {
            fault = 1;
        } else if (of instanceof ClassCastException) {
            fault = 2;
        } else if (of instanceof IndexOutOfBoundsException) {
            fault = 3;
        } else if (of instanceof NegativeArraySizeException) {
            fault = 4;
        } else {
            throw of;
        }
        return -10 - fault;
    }

    // ---- 1

    int river(int sheet, int lane, int i, int n) {
        fault = 0;
        try {
            Object row = sheetOf(sheet);
            need(lane >= 0 && lane <= 2, OUTSIDE);
            return readText(taken(row, lane, i, n));
        } catch (Refused refused) {
            return refused.answer;
        } catch (RuntimeException of) {
            return faulted(of);
        }
    }

    private int readText(int[] codes) {
        StringBuilder text = new StringBuilder();
        for (int code : codes) {
            text.append(code > 0 && code < 128 ? (char) code : '?');
        }
        for (int k = 0; k < codes.length; k++) {
            Matcher start = TEXT.matcher(text.substring(0, k + 1));
            if (!start.matches() && !start.hitEnd()) {
                return -100 - k;
            }
        }
        if (!TEXT.matcher(text).matches()) {
            return -100 - codes.length;
        }
        build(text.toString());
        return cells.size();
    }

    private void build(String text) {
        cells = new ArrayList<>();
        readings.clear();
        paceAtFirst = text.charAt(1) - '0';
        Matcher each = Pattern.compile("(d|[gmc][0-9])(\\^?)").matcher(text.substring(2));
        while (each.find()) {
            String told = each.group(1);
            Gravel made = made("dgmc".indexOf(told.charAt(0)) - 1);
            made.deep = told.equals("d");
            made.mud = made.deep ? 0 : told.charAt(1) - '0';
            made.bridged = !each.group(2).isEmpty();
            cells.add(made);
        }
    }

    private Gravel made(int kind) {
        return kind == 2 ? new Clay() : kind == 1 ? new Muddy() : new Gravel();
    }

    private boolean hasCell(int c) {
        return c >= 0 && c < cells.size();
    }

    int ofCell(int c, int what) {
        if (!hasCell(c)) {
            return UNKNOWN;
        }
        Gravel it = cells.get(c);
        int[] all = {it.kind(), it.mud, it.holds(), it.deep ? 1 : 0, it.bridged ? 1 : 0};
        return what < 0 || what >= all.length ? OUTSIDE : all[what];
    }

    int pace(int v) {
        if (v < 0 || v > 3) {
            return OUTSIDE;
        }
        if (cells.isEmpty()) {
            return STATE;
        }
        int was = paceAtFirst;
        paceAtFirst = v;
        return was;
    }

    int bridge(int c, boolean is) {
        if (!hasCell(c)) {
            return UNKNOWN;
        }
        boolean was = cells.get(c).bridged;
        cells.get(c).bridged = is;
        return was == is ? 0 : 1;
    }

    // ---- 2

    /** Where the boat is behind an act, or null. It goes on cell by cell. */
    private Boat turned(Boat boat, int act) {
        int tea = cells.size() - 1;
        Gravel under = cells.get(boat.cell());
        if (boat.cell() == tea || under.deep && act % 2 == 0) {
            return null;
        }
        int[] newPaces = {Math.min(3, boat.pace() + 1), Math.max(0, boat.pace() - 1), Math.max(1, boat.pace()), 1};
        int cell = boat.cell();
        for (int gone = 0; gone < newPaces[act] && cell < tea; gone++) {
            cell++;
            if (cells.get(cell).bridged && newPaces[act] >= 2) {
                return null;
            }
        }
        return new Boat(cell, newPaces[act]);
    }

    private static int dryTenths(Gravel in, int act) {
        if (act == 0) {
            return 10 - in.holds();
        }
        return act == 2 ? 10 - in.holds() / 2 : 10;
    }

    private int firstWrong(int[] acts) {
        Boat boat = new Boat(0, paceAtFirst);
        for (int t = 0; t < acts.length; t++) {
            boat = turned(boat, acts[t]);
            if (boat == null) {
                return t;
            }
        }
        return NONE;
    }

    private Boat end(int[] acts) {
        Boat boat = new Boat(0, paceAtFirst);
        for (int act : acts) {
            boat = turned(boat, act);
        }
        return boat;
    }

    private BigInteger dryParts(int[] acts) {
        Boat boat = new Boat(0, paceAtFirst);
        BigInteger parts = BigInteger.ONE;
        for (int act : acts) {
            parts = parts.multiply(BigInteger.valueOf(dryTenths(cells.get(boat.cell()), act)));
            boat = turned(boat, act);
        }
        return parts;
    }

    private static int[] checkedActs(int[] numbers) throws Refused {
        for (int number : numbers) {
            need(number >= 0 && number <= 3, OUTSIDE);
        }
        return numbers;
    }

    private int[] planOf(int sheet, int lane, int i, int n, boolean asksWell) throws Refused {
        fault = 0;
        Object row = sheetOf(sheet);
        need(lane >= 0 && lane <= 2, OUTSIDE);
        need(n >= 0 && n <= 18, OUTSIDE);
        need(asksWell, OUTSIDE);
        need(!cells.isEmpty(), STATE);
        return checkedActs(taken(row, lane, i, n));
    }

    int plan(int sheet, int lane, int i, int n, int what) {
        try {
            int[] acts = planOf(sheet, lane, i, n, what >= 0 && what <= 2);
            int wrong = firstWrong(acts);
            if (what == 1) {
                return wrong;
            }
            if (wrong != NONE) {
                return -100 - wrong;
            }
            return what == 0 ? end(acts).cell() : end(acts).pace();
        } catch (Refused refused) {
            return refused.answer;
        } catch (RuntimeException of) {
            return faulted(of);
        }
    }

    private static long told(BigInteger upper, BigInteger lower, int which) {
        BigInteger common = upper.gcd(lower);
        return (which == 0 ? upper : lower).divide(common).longValueExact();
    }

    long dry(int sheet, int lane, int i, int n, int which) {
        try {
            int[] acts = planOf(sheet, lane, i, n, which == 0 || which == 1);
            return firstWrong(acts) != NONE ? LOST : told(dryParts(acts), BigInteger.TEN.pow(n), which);
        } catch (Refused refused) {
            return LOST;
        } catch (RuntimeException of) {
            faulted(of);
            return LOST;
        }
    }

    long odds(int sheet, int lane, int i, int n, int which) {
        try {
            int[] acts = planOf(sheet, lane, i, n, which == 0 || which == 1);
            return firstWrong(acts) != NONE ? LOST : oddsByCounting(acts, which);
        } catch (Refused refused) {
            return LOST;
        } catch (RuntimeException of) {
            faulted(of);
            return LOST;
        }
    }

    /** All sets of holding cells, and those of them by which the pole stays nowhere. */
    private long oddsByCounting(int[] acts, int which) {
        long all = 1L << cells.size();
        long poled = 0;
        Boat boat = new Boat(0, paceAtFirst);
        for (int act : acts) {
            if (act == 0 || act == 2) {
                poled |= 1L << boat.cell();
            }
            boat = turned(boat, act);
        }
        long dry = 0;
        for (long holding = 0; holding < all; holding++) {
            dry += (holding & poled) == 0 ? 1 : 0;
        }
        return told(BigInteger.valueOf(dry), BigInteger.valueOf(all), which);
    }

    // ---- 3

    int soonest() {
        if (cells.isEmpty()) {
            return STATE;
        }
        Set<Boat> reached = new HashSet<>(Set.of(new Boat(0, paceAtFirst)));
        Set<Boat> seen = new HashSet<>(reached);
        for (int turns = 1; !reached.isEmpty(); turns++) {
            Set<Boat> next = new HashSet<>();
            for (Boat boat : reached) {
                for (int act = 0; act < 4; act++) {
                    Boat to = turned(boat, act);
                    if (to != null && to.cell() == cells.size() - 1) {
                        return turns;
                    }
                    if (to != null && seen.add(to)) {
                        next.add(to);
                    }
                }
            }
            reached = next;
        }
        return NONE;
    }

    /** Goes on from the start, keeping for each place the surest, then first, row that ends there. */
    private List<Integer> surestRow(int n) {
        Map<Boat, Way> at = new HashMap<>();
        at.put(new Boat(0, paceAtFirst), new Way(BigInteger.ONE, List.of()));
        Way best = null;
        for (int turn = 1; turn <= n; turn++) {
            Map<Boat, Way> next = new HashMap<>();
            for (Map.Entry<Boat, Way> entry : at.entrySet()) {
                for (int act = 0; act < 4; act++) {
                    Boat to = turned(entry.getKey(), act);
                    if (to != null) {
                        next.merge(to, longer(entry, act), Model::better);
                    }
                }
            }
            at = next;
            for (Map.Entry<Boat, Way> entry : at.entrySet()) {
                if (entry.getKey().cell() == cells.size() - 1) {
                    best = best == null ? entry.getValue() : better(best, entry.getValue());
                }
            }
        }
        return best == null ? null : best.acts();
    }

    private Way longer(Map.Entry<Boat, Way> entry, int act) {
        List<Integer> acts = new ArrayList<>(entry.getValue().acts());
        acts.add(act);
        int tenths = dryTenths(cells.get(entry.getKey().cell()), act);
        return new Way(entry.getValue().parts().multiply(BigInteger.valueOf(tenths)), acts);
    }

    private static Way better(Way one, Way other) {
        BigInteger ofOne = one.parts().multiply(BigInteger.TEN.pow(other.acts().size()));
        BigInteger ofOther = other.parts().multiply(BigInteger.TEN.pow(one.acts().size()));
        int sign = ofOne.compareTo(ofOther);
        if (sign == 0) {
            sign = Integer.compare(other.acts().size(), one.acts().size());
        }
        if (sign == 0) {
            sign = Arrays.compare(array(other.acts()), array(one.acts()));
        }
        return sign >= 0 ? one : other;
    }

    private static int[] array(List<Integer> acts) {
        return acts.stream().mapToInt(Integer::intValue).toArray();
    }

    /** Every row of up to n acts, one by one: only for few turns. */
    List<Integer> surestRowByTrying(int n) {
        Way[] best = {null};
        tryAll(new Boat(0, paceAtFirst), new Way(BigInteger.ONE, List.of()), n, best);
        return best[0] == null ? null : best[0].acts();
    }

    private void tryAll(Boat boat, Way way, int left, Way[] best) {
        if (boat.cell() == cells.size() - 1) {
            best[0] = best[0] == null ? way : better(best[0], way);
            return;
        }
        for (int act = 0; act < 4 && left > 0; act++) {
            Boat to = turned(boat, act);
            if (to != null) {
                tryAll(to, longer(Map.entry(boat, way), act), left - 1, best);
            }
        }
    }

    List<Integer> surestRowByTables(int n) {
        return surestRow(n);
    }

    int surest(int n, int q) {
        if (n < 1 || n > 12 || q < -1 || q > 11) {
            return OUTSIDE;
        }
        if (cells.isEmpty()) {
            return STATE;
        }
        List<Integer> row = surestRow(n);
        if (row == null) {
            return NONE;
        }
        return q == -1 ? row.size() : q < row.size() ? row.get(q) : NONE;
    }

    long sure(int n, int which) {
        if (n < 1 || n > 12 || which < 0 || which > 1 || cells.isEmpty()) {
            return LOST;
        }
        List<Integer> row = surestRow(n);
        if (row == null) {
            return which;
        }
        return told(dryParts(array(row)), BigInteger.TEN.pow(row.size()), which);
    }

    int cost(int c) {
        if (!hasCell(c)) {
            return UNKNOWN;
        }
        if (!cells.get(c).bridged) {
            return 0;
        }
        int with = soonest();
        cells.get(c).bridged = false;
        int without = soonest();
        cells.get(c).bridged = true;
        return with == NONE || without == NONE ? NONE : with - without;
    }

    // ---- 4

    int reading(int t, int c) {
        if (!hasCell(c)) {
            return UNKNOWN;
        }
        if (t < 1 || t > 12) {
            return OUTSIDE;
        }
        if (readings.size() == 8) {
            return FULL;
        }
        readings.add(new int[] {t, c});
        return readings.size() - 1;
    }

    int back(int k) {
        if (k < 0 || k > readings.size()) {
            return OUTSIDE;
        }
        for (int gone = 0; gone < k; gone++) {
            readings.remove(readings.size() - 1);
        }
        return readings.size();
    }

    int ways(int n, int q) {
        if (n < 0 || n > 7 || q < -1 || q > 6) {
            return OUTSIDE;
        }
        if (cells.isEmpty()) {
            return STATE;
        }
        List<int[]> all = new ArrayList<>();
        collectWays(new Boat(0, paceAtFirst), new int[n], 0, all);
        if (q == -1) {
            return all.size();
        }
        return all.isEmpty() || q >= n ? NONE : all.get(0)[q];
    }

    private void collectWays(Boat boat, int[] acts, int turn, List<int[]> all) {
        for (int[] reading : readings) {
            if (turn > 0 && reading[0] == turn && reading[1] != boat.cell()) {
                return;
            }
        }
        if (turn == acts.length) {
            all.add(acts.clone());
            return;
        }
        for (int act = 0; act < 4; act++) {
            Boat to = turned(boat, act);
            if (to != null) {
                acts[turn] = act;
                collectWays(to, acts, turn + 1, all);
            }
        }
    }

    private int[] planFor(int c, int sheet, int lane, int i, int n, int up) throws Refused {
        fault = 0;
        need(hasCell(c), UNKNOWN);
        Object row = sheetOf(sheet);
        need(lane >= 0 && lane <= 2, OUTSIDE);
        need(n >= 0 && n <= 9, OUTSIDE);
        need(up >= 0 && up <= 1000000000, OUTSIDE);
        int[] acts = checkedActs(taken(row, lane, i, n));
        int wrong = firstWrong(acts);
        need(wrong == NONE, -100 - wrong);
        return acts;
    }

    /** Puts another cell there for a while and asks how likely one then is dry. */
    private boolean isDryBy(int c, int kind, int mud, int[] acts, int up) {
        Gravel own = cells.get(c);
        if (!own.deep) {
            Gravel other = made(kind);
            other.mud = mud;
            other.bridged = own.bridged;
            cells.set(c, other);
        }
        BigInteger parts = dryParts(acts);
        cells.set(c, own);
        return parts.equals(BigInteger.valueOf(up));
    }

    int kinds(int c, int sheet, int lane, int i, int n, int up) {
        try {
            int[] acts = planFor(c, sheet, lane, i, n, up);
            int set = 0;
            for (int kind = 0; kind < 3; kind++) {
                set += isDryBy(c, kind, cells.get(c).mud, acts, up) ? 1 << kind : 0;
            }
            return set;
        } catch (Refused refused) {
            return refused.answer;
        } catch (RuntimeException of) {
            return faulted(of);
        }
    }

    int muds(int c, int sheet, int lane, int i, int n, int up) {
        try {
            int[] acts = planFor(c, sheet, lane, i, n, up);
            int set = 0;
            for (int mud = 0; mud < 10; mud++) {
                set += isDryBy(c, cells.get(c).kind(), mud, acts, up) ? 1 << mud : 0;
            }
            return set;
        } catch (Refused refused) {
            return refused.answer;
        } catch (RuntimeException of) {
            return faulted(of);
        }
    }

    // ---- 5

    int sheet(int k, int lane, int n) {
        fault = 0;
        try {
            sheetOf(k);
            need(lane >= 0 && lane <= 2 && n <= 60, OUTSIDE);
            sheets[k] = newRow(lane, n);
            return 1;
        } catch (Refused refused) {
            return refused.answer;
        } catch (RuntimeException of) {
            return faulted(of);
        }
    }

    int lose(int k) {
        try {
            int had = sheetOf(k) == null ? 0 : 1;
            sheets[k] = null;
            return had;
        } catch (Refused refused) {
            return refused.answer;
        }
    }

    int put(int k, int i, int v) {
        fault = 0;
        try {
            Object row = sheetOf(k);
            if (row instanceof byte[] bytes) {
                bytes[i] = (byte) v;
            } else if (row instanceof short[] shorts) {
                shorts[i] = (short) v;
            } else {
                ((int[]) row)[i] = v;
            }
            return 1;
        } catch (Refused refused) {
            return refused.answer;
        } catch (RuntimeException of) {
            return faulted(of);
        }
    }

    long cell(int k, int i, int lane) {
        fault = 0;
        try {
            Object row = sheetOf(k);
            need(lane >= 0 && lane <= 2, OUTSIDE);
            return java.lang.reflect.Array.getLong(castTo(row, lane), i);
        } catch (Refused refused) {
            return LOST;
        } catch (RuntimeException of) {
            faulted(of);
            return LOST;
        }
    }

    int copy(int k, int i, int other, int j, int n) {
        fault = 0;
        try {
            Object from = sheetOf(k);
            Object to = sheetOf(other);
            if (from != null && to != null && from.getClass() != to.getClass()) {
                throw new ClassCastException();
            }
            System.arraycopy(from, i, to, j, n);
            return n;
        } catch (Refused refused) {
            return refused.answer;
        } catch (RuntimeException of) {
            return faulted(of);
        }
    }

    int tell(int c) {
        return hasCell(c) ? cells.get(c).telling() : UNKNOWN;
    }

    int sound(int c) {
        return hasCell(c) ? cells.get(c).sounding(c) : UNKNOWN;
    }

    int as(int c, int kind) {
        fault = 0;
        if (!hasCell(c)) {
            return UNKNOWN;
        }
        if (kind < 0 || kind > 2) {
            return OUTSIDE;
        }
        try {
            Gravel it = cells.get(c);
            Gravel taken = kind == 2 ? (Clay) it : kind == 1 ? (Muddy) it : it;
            return taken == it ? 1 : 0;
        } catch (ClassCastException of) {
            return faulted(of);
        }
    }

    int trace() {
        return trace;
    }

    int fault() {
        return fault;
    }

    int many(int what) {
        int bridges = 0;
        for (Gravel it : cells) {
            bridges += it.bridged ? 1 : 0;
        }
        int[] all = {cells.size(), paceAtFirst, bridges, readings.size()};
        return what < 0 || what >= all.length ? OUTSIDE : all[what];
    }

    /** The acts that can be behind a row of acts, for tests that make up plans. */
    List<Integer> actsBehind(List<Integer> acts) {
        List<Integer> can = new ArrayList<>();
        if (cells.isEmpty()) {
            return can;
        }
        Boat boat = end(array(acts));
        for (int act = 0; act < 4; act++) {
            if (turned(boat, act) != null) {
                can.add(act);
            }
        }
        return can;
    }

    /** How likely one is dry by acts that can be, as parts of 10 to their number. */
    long partsOf(List<Integer> acts) {
        return dryParts(array(acts)).longValueExact();
    }
}
