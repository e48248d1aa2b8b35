import java.util.ArrayList;
import java.util.List;
import java.util.Random;

/** Random runs of calls, any arguments in any order, each answer compared with the model's. */
public final class ModelTest {
    private static final int RUNS = 2500, CALLS = 512;
    private static final int[] ODD = {Integer.MIN_VALUE, Integer.MIN_VALUE + 1, -100, -2, -1, 60, 61, 64, 100, 255, 256,
        65536, Integer.MAX_VALUE - 1, Integer.MAX_VALUE};

    private final Random random;
    private final PoleBehind x = new PoleBehind();
    private final Model model = new Model();
    private final List<String> lately = new ArrayList<>();
    private final Check check;
    private int calls;
    private boolean failed;

    private ModelTest(long seed, Check check) {
        this.random = new Random(seed);
        this.check = check;
    }

    public static void main(String[] args) {
        Check check = new Check("ModelTest");
        for (int run = 0; run < RUNS && check.wrong() == 0; run++) {
            new ModelTest(run, check).run();
        }
        surestByTrying(check);
        check.end();
    }

    private void run() {
        while (calls < CALLS && !failed) {
            switch (random.nextInt(12)) {
                case 0 -> tellRiver();
                case 1 -> tellPlan();
                case 2, 3 -> askAPlan();
                case 4 -> askTheSurest();
                case 5, 6 -> askTheCells();
                case 7, 8 -> askTheReadings();
                case 9, 10 -> askTheSheets();
                default -> askAnything();
            }
        }
    }

    /** Counts a call and compares it; what the calls beyond the last that is promised answer is free. */
    private void due(String call, long got, long want) {
        calls++;
        if (calls > CALLS) {
            return;
        }
        lately.add(call + " = " + want);
        if (got != want && !failed) {
            failed = true;
            check.due("behind\n    " + String.join("\n    ", lately) + "\n  the last", got, want);
        } else if (!failed) {
            check.due(call, got, want);
        }
    }

    private int odd(int below) {
        return random.nextInt(25) == 0 ? ODD[random.nextInt(ODD.length)] : random.nextInt(below + 2) - 1;
    }

    private int usual(int below) {
        return random.nextInt(30) == 0 ? odd(below) : random.nextInt(below);
    }

    private String someText() {
        StringBuilder text = new StringBuilder("p").append(random.nextInt(4));
        int cells = random.nextInt(4) == 0 ? 1 + random.nextInt(17) : 2 + random.nextInt(11);
        int deep = random.nextInt(4) == 0 ? 8 : 3;
        int bridges = 1 + random.nextInt(8);
        int mud = random.nextBoolean() ? 10 : 3;
        for (int c = 0; c < cells; c++) {
            if (random.nextInt(deep) == 0) {
                text.append('d');
            } else {
                text.append("gmc".charAt(random.nextInt(3))).append(random.nextInt(mud));
            }
            text.append(random.nextInt(bridges) == 0 ? "^" : "");
        }
        return text.toString();
    }

    private void tellRiver() {
        if (calls > 0 && random.nextInt(4) != 0) {
            return;
        }
        String text = someText();
        if (random.nextInt(5) == 0) {
            int place = random.nextInt(text.length());
            text = text.substring(0, place) + "pgmcd^0123456789x".charAt(random.nextInt(17)) + text.substring(place + random.nextInt(2));
        }
        int k = random.nextInt(4);
        int lane = random.nextInt(3);
        int from = random.nextInt(3);
        newSheet(k, lane, Math.min(60, text.length() + from + random.nextInt(2)));
        for (int i = 0; i < text.length(); i++) {
            putAt(k, from + i, text.charAt(i));
        }
        askRiver(k, lane, from, random.nextInt(6) == 0 ? usual(text.length() + 1) : text.length());
    }

    private void askRiver(int k, int lane, int i, int n) {
        due("river(" + k + ", " + lane + ", " + i + ", " + n + ")", x.river(k, lane, i, n), model.river(k, lane, i, n));
        askFault();
    }

    private void askFault() {
        due("fault()", x.fault(), model.fault());
    }

    private void newSheet(int k, int lane, int n) {
        due("sheet(" + k + ", " + lane + ", " + n + ")", x.sheet(k, lane, n), model.sheet(k, lane, n));
    }

    private void putAt(int k, int i, int v) {
        due("put(" + k + ", " + i + ", " + v + ")", x.put(k, i, v), model.put(k, i, v));
    }

    /** A plan that mostly can be, to its end or but for its last act. */
    private List<Integer> someActs() {
        List<Integer> acts = new ArrayList<>();
        int most = random.nextInt(4) == 0 ? 18 : random.nextInt(10);
        boolean slow = random.nextInt(3) == 0;
        List<Integer> can = model.actsBehind(acts);
        while (acts.size() < most && !can.isEmpty()) {
            acts.add(slow && can.contains(1) && random.nextBoolean() ? 1 : can.get(random.nextInt(can.size())));
            can = model.actsBehind(acts);
        }
        if (acts.size() < 18 && random.nextInt(5) == 0) {
            acts.add(random.nextInt(4));
        }
        return acts;
    }

    private int planSheet = 3;
    private int planLane = 2;
    private List<Integer> planned = List.of();

    private void tellPlan() {
        planned = someActs();
        planSheet = random.nextInt(4);
        planLane = random.nextInt(3);
        newSheet(planSheet, planLane, planned.size() + random.nextInt(3));
        for (int i = 0; i < planned.size(); i++) {
            putAt(planSheet, i, planned.get(i));
        }
    }

    private void askAPlan() {
        int k = usual(40) < 39 ? planSheet : odd(4);
        int lane = usual(40) < 39 ? planLane : odd(3);
        int i = random.nextInt(8) == 0 ? odd(planned.size() + 1) : 0;
        int n = random.nextInt(4) == 0 ? usual(planned.size() + 2) : planned.size() - i;
        String told = "(" + k + ", " + lane + ", " + i + ", " + n + ", ";
        for (int what = 0; what <= 2; what++) {
            int asked = usual(3);
            due("plan" + told + asked + ")", x.plan(k, lane, i, n, asked), model.plan(k, lane, i, n, asked));
            askFault();
        }
        for (int which = -1; which <= 2; which++) {
            due("dry" + told + which + ")", x.dry(k, lane, i, n, which), model.dry(k, lane, i, n, which));
            due("odds" + told + which + ")", x.odds(k, lane, i, n, which), model.odds(k, lane, i, n, which));
        }
        askFault();
        askWhichKinds(k, lane, i, n);
    }

    private void askWhichKinds(int k, int lane, int i, int n) {
        int up = random.nextInt(10) == 0 ? odd(1000000001) : likelyParts(i, n);
        String told = ", " + k + ", " + lane + ", " + i + ", " + n + ", " + up + ")";
        for (int round = 0; round < 3; round++) {
            int c = usual(Math.max(1, model.many(0)));
            due("kinds(" + c + told, x.kinds(c, k, lane, i, n, up), model.kinds(c, k, lane, i, n, up));
            due("muds(" + c + told, x.muds(c, k, lane, i, n, up), model.muds(c, k, lane, i, n, up));
            askFault();
        }
    }

    /** The share that is, or one close by, so that the sets are not all empty. */
    private int likelyParts(int i, int n) {
        boolean isWhole = i == 0 && n == planned.size() && n <= 9 && model.many(0) > 0 && model.plan(planSheet, planLane, 0, n, 1) == -9;
        if (!isWhole) {
            return random.nextInt(1000);
        }
        long parts = model.partsOf(planned);
        int tenths = 1 + random.nextInt(10);
        return (int) (random.nextBoolean() || parts % tenths != 0 ? parts : Math.min(1000000000L, parts / tenths * (1 + random.nextInt(10))));
    }

    private void askTheSurest() {
        due("soonest()", x.soonest(), model.soonest());
        int n = random.nextInt(12) == 0 ? odd(13) : 1 + random.nextInt(12);
        for (int q = -2; q <= 12; q++) {
            due("surest(" + n + ", " + q + ")", x.surest(n, q), model.surest(n, q));
        }
        for (int which = -1; which <= 2; which++) {
            due("sure(" + n + ", " + which + ")", x.sure(n, which), model.sure(n, which));
        }
    }

    private void askTheCells() {
        int c = usual(Math.max(2, model.many(0)));
        int what = odd(5);
        int kind = odd(3);
        int v = odd(4);
        boolean is = random.nextBoolean();
        due("cost(" + c + ")", x.cost(c), model.cost(c));
        due("ofCell(" + c + ", " + what + ")", x.ofCell(c, what), model.ofCell(c, what));
        due("as(" + c + ", " + kind + ")", x.as(c, kind), model.as(c, kind));
        askFault();
        due("tell(" + c + ")", x.tell(c), model.tell(c));
        due("trace()", x.trace(), model.trace());
        due("sound(" + c + ")", x.sound(c), model.sound(c));
        due("trace()", x.trace(), model.trace());
        due("many(" + what + ")", x.many(what), model.many(what));
        due("bridge(" + c + ", " + is + ")", x.bridge(c, is), model.bridge(c, is));
        due("pace(" + v + ")", x.pace(v), model.pace(v));
        due("soonest()", x.soonest(), model.soonest());
    }

    private void askTheReadings() {
        if (random.nextInt(3) == 0) {
            int gone = random.nextInt(3) == 0 ? odd(9) : random.nextInt(model.many(3) + 1);
            due("back(" + gone + ")", x.back(gone), model.back(gone));
        }
        if (random.nextBoolean()) {
            int t = random.nextInt(8) == 0 ? odd(13) : 1 + random.nextInt(6);
            int c = random.nextInt(4) == 0 ? usual(Math.max(2, model.many(0))) : Math.min(t, Math.max(1, model.many(0)) - 1);
            due("reading(" + t + ", " + c + ")", x.reading(t, c), model.reading(t, c));
        }
        int n = random.nextInt(10) == 0 ? odd(8) : random.nextInt(8);
        int q = odd(7);
        due("ways(" + n + ", -1)", x.ways(n, -1), model.ways(n, -1));
        due("ways(" + n + ", " + q + ")", x.ways(n, q), model.ways(n, q));
        due("ways(" + n + ", " + (n - 1) + ")", x.ways(n, n - 1), model.ways(n, n - 1));
        due("many(3)", x.many(3), model.many(3));
    }

    private void askTheSheets() {
        int k = usual(4);
        int other = usual(4);
        int lane = odd(3);
        int i = odd(8);
        int v = random.nextBoolean() ? random.nextInt() : odd(5);
        if (random.nextInt(6) == 0) {
            newSheet(k, lane, random.nextInt(5) == 0 ? odd(62) : random.nextInt(10));
        }
        if (random.nextInt(12) == 0) {
            due("lose(" + k + ")", x.lose(k), model.lose(k));
        }
        putAt(k, i, v);
        askFault();
        due("cell(" + k + ", " + i + ", " + lane + ")", x.cell(k, i, lane), model.cell(k, i, lane));
        askFault();
        int j = odd(6);
        int n = random.nextInt(4) == 0 ? odd(61) : odd(4);
        due("copy(" + k + ", " + i + ", " + other + ", " + j + ", " + n + ")", x.copy(k, i, other, j, n), model.copy(k, i, other, j, n));
        askFault();
        for (int each = 0; each < 6; each++) {
            int at = random.nextInt(9);
            int as = random.nextInt(3);
            due("cell(" + other + ", " + at + ", " + as + ")", x.cell(other, at, as), model.cell(other, at, as));
        }
        askFault();
    }

    private void askAnything() {
        int a = odd(4);
        int b = odd(3);
        int c = odd(5);
        int d = odd(19);
        int e = odd(3);
        int f = odd(16);
        askRiver(a, b, c, d);
        due("plan(" + a + ", " + b + ", " + c + ", " + d + ", " + e + ")", x.plan(a, b, c, d, e), model.plan(a, b, c, d, e));
        askFault();
        due("kinds(" + f + ", " + a + ", " + b + ", " + c + ", " + d + ", " + e + ")", x.kinds(f, a, b, c, d, e), model.kinds(f, a, b, c, d, e));
        askFault();
        due("muds(" + f + ", " + a + ", " + b + ", " + c + ", " + d + ", " + e + ")", x.muds(f, a, b, c, d, e), model.muds(f, a, b, c, d, e));
        askFault();
        due("lose(" + d + ")", x.lose(d), model.lose(d));
        askFault();
        due("many(" + b + ")", x.many(b), model.many(b));
    }

    /** The model's own way to the surest row against trying every row. */
    private static void surestByTrying(Check check) {
        Random random = new Random(7);
        for (int round = 0; round < 300; round++) {
            ModelTest made = new ModelTest(random.nextLong(), check);
            String text = made.someText();
            made.model.sheet(0, 0, text.length());
            for (int i = 0; i < text.length(); i++) {
                made.model.put(0, i, text.charAt(i));
            }
            if (made.model.river(0, 0, 0, text.length()) > 0) {
                int n = 1 + random.nextInt(7);
                check.holds("the surest of " + n + " on " + text,
                    java.util.Objects.equals(made.model.surestRowByTables(n), made.model.surestRowByTrying(n)));
            }
        }
    }
}
