import java.util.Arrays;

/** Boundary cases of promises 6, 7 and 17: plans, how likely one is dry by them, odds. */
public final class PlanEdgeTest {
    private static final int UNKNOWN = -1, OUTSIDE = -2, STATE = -3, NONE = -9, NULL = -11, CAST = -12, INDEX = -13;
    private static final int PUSH = 0, TRAIL = 1, TWIST = 2, PADDLE = 3;
    private static final long LOST = Long.MIN_VALUE;

    public static void main(String[] args) {
        Check check = new Check("PlanEdgeTest");
        plansInTheOrderTold(check);
        plansFarOutside(check);
        numbersThatAreNoActs(check);
        plansOfEachLength(check);
        firstWrongAtEachPlace(check);
        firstWrongOfSeveral(check);
        eachPaceByEachAct(check);
        teaAtEachDistance(check);
        anyActAtTheTea(check);
        noGroundInDeepCells(check);
        bridgeAtEachDistance(check);
        bridgeOverTheTea(check);
        dryByEachHold(check);
        dryInTheCellOfTheAct(check);
        dryInLeastTerms(check);
        oddsOfEachNumberOfCells(check);
        check.end();
    }

    /** How a plan of one of the sheets ends: cell, pace, first wrong; the dry share; the lower number of its odds. */
    private static long[] end(World world, int sheet, int n) {
        int first = world.cells() == 10 ? 1 : 0;
        if (n > 0 && sheet == World.TRAILS) {
            return new long[] {0, 0, NONE, 1, 1, 1};
        }
        if (n == 0 || sheet != World.PUSHES) {
            return new long[] {0, first, NONE, 1, 1, 1};
        }
        if (world == World.RIVER || n > 2) {
            int wrong = world == World.RIVER ? 0 : 2;
            return new long[] {-100 - wrong, -100 - wrong, wrong, LOST, LOST, LOST};
        }
        return n == 1 ? new long[] {1, 1, NONE, 9, 10, 2} : new long[] {3, 2, NONE, 63, 100, 4};
    }

    /** UNKNOWN: SHEET; OUTSIDE: lane, n, what; STATE; CAST; NULL; INDEX; OUTSIDE: an ACT. */
    private static void plansInTheOrderTold(Check check) {
        for (World world : World.values()) {
            Still still = new Still(check, world);
            for (int sheet = -1; sheet <= 4; sheet++) {
                for (int lane = -1; lane <= 3; lane++) {
                    int length = Math.max(0, world.length(sheet));
                    for (int i : new int[] {-1, 0, length - 17, length, length + 1, Integer.MIN_VALUE, Integer.MAX_VALUE}) {
                        for (int n : new int[] {-1, 0, 1, 2, 3, 17, 18, 19}) {
                            onePlan(still, world, new int[] {sheet, lane, i, n});
                        }
                    }
                }
            }
            still.end();
        }
    }

    private static void onePlan(Still still, World world, int[] a) {
        int sheet = a[0];
        int lane = a[1];
        int i = a[2];
        int n = a[3];
        String told = "(" + sheet + ", " + lane + ", " + i + ", " + n + ", ";
        boolean isText = sheet == World.TEXT && i < world.text().length();
        // Behind a text the longest sheet has noughts, as the sheet of pushes has.
        long[] end = end(world, sheet == World.TEXT ? World.PUSHES : sheet, n);
        for (int what = -1; what <= 3; what++) {
            int asked = what;
            Due due = wrongOf(world, a, what < 0 || what > 2).wrong(n > 0 && isText, OUTSIDE);
            long right = what == 1 ? end[2] : what == 0 ? end[0] : end[1];
            still.due("plan" + told + what + ")", x -> x.plan(sheet, lane, i, n, asked), due.or(right), due.fault());
        }
        for (int which = -1; which <= 2; which++) {
            int asked = which;
            Due due = wrongOf(world, a, which < 0 || which > 1).wrong(n > 0 && isText, OUTSIDE);
            still.due("dry" + told + which + ")", x -> x.dry(sheet, lane, i, n, asked),
                due.lostOr(which == 0 ? end[3] : end[4]), due.fault());
            still.due("odds" + told + which + ")", x -> x.odds(sheet, lane, i, n, asked),
                due.lostOr(which == 0 ? Math.min(end[5], 1) : end[5]), due.fault());
        }
    }

    private static Due wrongOf(World world, int[] a, boolean asksOutside) {
        boolean isOutside = a[1] < 0 || a[1] > 2 || a[3] < 0 || a[3] > 18 || asksOutside;
        return new Due().wrong(!world.hasSheet(a[0]), UNKNOWN).wrong(isOutside, OUTSIDE).wrong(world.cells() == 0, STATE)
            .wrong(!world.hasNothing(a[0]) && a[1] != world.lane(a[0]), CAST).wrong(world.hasNothing(a[0]), NULL)
            .wrong(a[2] < 0 || (long) a[2] + a[3] > world.length(a[0]), INDEX);
    }

    private static void plansFarOutside(Check check) {
        for (World world : new World[] {World.ROWS, World.FULL}) {
            Still still = new Still(check, world);
            for (int k : Numbers.outside(0, 3)) {
                eachOfThree(still, new int[] {k, 2, 0, 1, 0}, UNKNOWN, 0);
            }
            for (int lane : Numbers.outside(0, 2)) {
                eachOfThree(still, new int[] {2, lane, 0, 1, 0}, OUTSIDE, 0);
            }
            for (int n : Numbers.outside(0, 18)) {
                eachOfThree(still, new int[] {2, 2, 0, n, 0}, OUTSIDE, 0);
            }
            for (int what : Numbers.outside(0, 2)) {
                eachOfThree(still, new int[] {2, 2, 0, 1, what}, OUTSIDE, 0);
            }
            for (int i : Numbers.outside(0, 60)) {
                boolean hasRiver = world.cells() > 0;
                eachOfThree(still, new int[] {2, 2, i, 18, 0}, hasRiver ? INDEX : STATE, hasRiver ? 3 : 0);
                eachOfThree(still, new int[] {2, 2, i, 0, 0}, hasRiver ? INDEX : STATE, hasRiver ? 3 : 0);
            }
            // Of so many from there on the sum passes the greatest int by one, or more.
            for (int n = 1; n <= 18 && world == World.FULL; n++) {
                eachOfThree(still, new int[] {2, 2, Integer.MAX_VALUE - n + 1, n, 0}, INDEX, 3);
                eachOfThree(still, new int[] {2, 2, Integer.MAX_VALUE, n, 0}, INDEX, 3);
            }
            still.end();
        }
    }

    private static void eachOfThree(Still still, int[] a, int answer, int fault) {
        String told = Arrays.toString(a);
        still.due("plan of " + told, x -> x.plan(a[0], a[1], a[2], a[3], a[4]), answer, fault);
        still.due("dry of " + told, x -> x.dry(a[0], a[1], a[2], a[3], a[4]), LOST, fault);
        still.due("odds of " + told, x -> x.odds(a[0], a[1], a[2], a[3], a[4]), LOST, fault);
    }

    /** OUTSIDE: an ACT (0 .. 3), be it at any place of the row, or behind a FIRST WRONG. */
    private static void numbersThatAreNoActs(Check check) {
        for (int number : Numbers.outside(0, 3)) {
            PoleBehind x = Told.objectWith("p0dd");
            int[] acts = new int[18];
            Arrays.fill(acts, TRAIL);
            Told.acts(x, acts);
            for (int place : new int[] {0, 1, 8, 16, 17}) {
                x.put(3, place, number);
                String told = " with " + number + " at " + place;
                check.due("plan" + told, x.plan(3, 2, 0, 18, 0), OUTSIDE);
                check.due("its first wrong" + told, x.plan(3, 2, 0, 18, 1), OUTSIDE);
                check.due("dry" + told, x.dry(3, 2, 0, 18, 0), LOST);
                check.due("odds" + told, x.odds(3, 2, 0, 18, 1), LOST);
                check.due("fault()" + told, x.fault(), 0);
                check.due("plan just short of it" + told, x.plan(3, 2, 0, place, 1), NONE);
                check.due("plan just behind it" + told, x.plan(3, 2, place + 1, 17 - place, 1), NONE);
                x.put(3, place, TRAIL);
            }
            x.put(3, 0, PUSH);
            x.put(3, 1, number);
            check.due("behind a first wrong, " + number, x.plan(3, 2, 0, 2, 1), OUTSIDE);
            check.due("the first wrong alone", x.plan(3, 2, 0, 1, 1), 0);
        }
    }

    /** A PLAN of none, of one, of as many as there may be, and of one more; from each place on. */
    private static void plansOfEachLength(Check check) {
        for (int n = 0; n <= 19; n++) {
            PoleBehind x = Told.objectWith("p0" + "g0".repeat(16));
            int[] acts = new int[n];
            for (int t = 0; t < n; t++) {
                acts[t] = t % 2 == 0 && t < 17 ? PADDLE : TRAIL;
            }
            boolean isOutside = n > 18;
            int cell = (n + 1) / 2;
            check.due("cell by " + n, Told.plan(x, 0, acts), isOutside ? OUTSIDE : cell);
            check.due("first wrong of " + n, Told.plan(x, 1, acts), isOutside ? OUTSIDE : NONE);
            check.due("pace by " + n, Told.plan(x, 2, acts), isOutside ? OUTSIDE : n % 2);
            check.due("dry by " + n, Told.dry(x, 0, acts), isOutside ? LOST : 1);
            check.due("odds of " + n, Told.odds(x, 1, acts), isOutside ? LOST : 1);
        }
        PoleBehind x = Told.objectWith("p3" + "g0".repeat(16));
        int[] none = new int[0];
        check.due("no act: cell", Told.plan(x, 0, none), 0);
        check.due("no act: first wrong", Told.plan(x, 1, none), NONE);
        check.due("no act: pace", Told.plan(x, 2, none), 3);
        check.due("no act: dry, upper", Told.dry(x, 0, none), 1);
        check.due("no act: dry, lower", Told.dry(x, 1, none), 1);
        check.due("no act: odds, upper", Told.odds(x, 0, none), 1);
        check.due("no act: odds, lower", Told.odds(x, 1, none), 1);
    }

    /** FIRST WRONG is told by its place in the row, from 0 on: 0 .. 17. */
    private static void firstWrongAtEachPlace(Check check) {
        for (int place = 0; place < 18; place++) {
            PoleBehind x = Told.objectWith("p0dd");
            int[] acts = new int[18];
            Arrays.fill(acts, TRAIL);
            acts[place] = place % 2 == 0 ? PUSH : TWIST;
            check.due("first wrong at " + place, Told.plan(x, 1, acts), place);
            check.due("cell, wrong at " + place, Told.plan(x, 0, acts), -100 - place);
            check.due("pace, wrong at " + place, Told.plan(x, 2, acts), -100 - place);
            check.due("fault()", x.fault(), 0);
            check.due("dry, wrong at " + place, Told.dry(x, 0, acts), LOST);
            check.due("dry, wrong at " + place, Told.dry(x, 1, acts), LOST);
            check.due("odds, wrong at " + place, Told.odds(x, 0, acts), LOST);
            check.due("odds, wrong at " + place, Told.odds(x, 1, acts), LOST);
            check.due("fault()", x.fault(), 0);
            check.due("ended just ahead of it", x.plan(3, 2, 0, place, 1), NONE);
        }
    }

    private static void firstWrongOfSeveral(Check check) {
        PoleBehind x = Told.objectWith("p0ddg0");
        check.due("wrong at 1, 2, 3", Told.plan(x, 1, TRAIL, PUSH, PUSH, TWIST), 1);
        check.due("wrong at 0 and at the tea", Told.plan(x, 1, TWIST, PADDLE, PADDLE, PADDLE), 0);
        check.due("wrong at 2 and behind", Told.plan(x, 2, PADDLE, PADDLE, PADDLE, PUSH), -102);
    }

    /** What PACE is by each ACT: 3 at most, 0 at least; 1 at least by a TWIST; 1 by a PADDLE. */
    private static final int[][] PACE_BY = {{1, 2, 3, 3}, {0, 0, 1, 2}, {1, 1, 2, 3}, {1, 1, 1, 1}};

    private static void eachPaceByEachAct(Check check) {
        PoleBehind x = Told.objectWith("p0" + "g0".repeat(8));
        for (int first = 0; first <= 3; first++) {
            x.pace(first);
            for (int act = 0; act <= 3; act++) {
                check.due("pace by " + act + " at " + first, Told.plan(x, 2, act), PACE_BY[act][first]);
                check.due("cell by " + act + " at " + first, Told.plan(x, 0, act), PACE_BY[act][first]);
                check.due("pace at first, as it was", x.many(1), first);
            }
        }
        check.due("three pushes and one more", Told.plan(Told.objectWith("p0" + "g0".repeat(16)), 2, PUSH, PUSH, PUSH, PUSH), 3);
        check.due("three trails and one more", Told.plan(Told.objectWith("p3" + "g0".repeat(16)), 2, TRAIL, TRAIL, TRAIL, TRAIL), 0);
    }

    /** It stops at the TEA, and keeps its PACE there. */
    private static void teaAtEachDistance(Check check) {
        for (int cells = 2; cells <= 6; cells++) {
            PoleBehind x = Told.objectWith("p0" + "g0".repeat(cells));
            for (int first = 0; first <= 3; first++) {
                x.pace(first);
                for (int act = 0; act <= 3; act++) {
                    String told = act + " at pace " + first + ", " + cells + " cells";
                    check.due("cell by " + told, Told.plan(x, 0, act), Math.min(cells - 1, PACE_BY[act][first]));
                    check.due("pace by " + told, Told.plan(x, 2, act), PACE_BY[act][first]);
                }
            }
        }
    }

    private static void anyActAtTheTea(Check check) {
        for (String text : new String[] {"p1dd", "p1dg0", "p1dc9^", "p3g0d", "p2m9m9"}) {
            PoleBehind x = Told.objectWith(text);
            for (int act = 0; act <= 3; act++) {
                check.due("at the tea of " + text + " " + act, Told.plan(x, 1, PADDLE, act), 1);
                check.due("with more behind", Told.plan(x, 0, PADDLE, act, TRAIL), -101);
            }
            check.due("no act at the tea", Told.plan(x, 0, PADDLE), 1);
        }
    }

    private static void noGroundInDeepCells(Check check) {
        for (int first = 0; first <= 3; first++) {
            for (int act = 0; act <= 3; act++) {
                PoleBehind x = Told.objectWith("p0dg0dg0dg0dg0");
                x.pace(first);
                check.due("act " + act + " in a deep one at pace " + first, Told.plan(x, 1, act), act % 2 == 0 ? 0 : NONE);
                PoleBehind y = Told.objectWith("p0g0ddddddd");
                y.pace(first);
                check.due("act " + act + " from ground to deep ones at pace " + first, Told.plan(y, 1, act), NONE);
            }
        }
    }

    /** Through or to a CELL under a BRIDGE by a PACE above 1; from under one, or short of one, it can be. */
    private static void bridgeAtEachDistance(Check check) {
        for (int at = 0; at < 6; at++) {
            PoleBehind x = Told.objectWith("p0" + "g0".repeat(6));
            x.bridge(at, true);
            for (int first = 0; first <= 3; first++) {
                x.pace(first);
                for (int act = 0; act <= 3; act++) {
                    int pace = PACE_BY[act][first];
                    boolean isUnder = pace > 1 && at >= 1 && at <= pace;
                    check.due("act " + act + " at pace " + first + ", bridge over " + at, Told.plan(x, 1, act), isUnder ? 0 : NONE);
                }
            }
        }
        PoleBehind deep = Told.objectWith("p3ddd^d");
        check.due("by 2 to a deep one under a bridge", Told.plan(deep, 1, TRAIL), 0);
        check.due("by 1 there and on from it", Told.plan(deep, 0, PADDLE, PADDLE, PADDLE), 3);
    }

    /** Be it fewer CELLS to the TEA: it is the PACE that may not be above 1; a bridge past the TEA is none. */
    private static void bridgeOverTheTea(Check check) {
        for (int cells = 2; cells <= 5; cells++) {
            PoleBehind x = Told.objectWith("p0" + "g0".repeat(cells - 1) + "g0^");
            for (int first = 0; first <= 3; first++) {
                x.pace(first);
                for (int act = 0; act <= 3; act++) {
                    int pace = PACE_BY[act][first];
                    check.due("act " + act + " at pace " + first + ", " + cells + " cells", Told.plan(x, 1, act),
                        pace > 1 && cells - 1 <= pace ? 0 : NONE);
                }
            }
        }
    }

    /** At a PUSH as many tenths as its CELL HOLDS, at a TWIST half of that (cut); never at a TRAIL, a PADDLE. */
    private static void dryByEachHold(Check check) {
        long[][] byPush = {{1, 1}, {9, 10}, {4, 5}, {7, 10}, {3, 5}, {1, 2}, {2, 5}, {3, 10}, {1, 5}, {1, 10}};
        long[][] byTwist = {{1, 1}, {1, 1}, {9, 10}, {9, 10}, {4, 5}, {4, 5}, {7, 10}, {7, 10}, {3, 5}, {3, 5}};
        for (int holds = 0; holds <= 9; holds++) {
            PoleBehind x = Told.objectWith("p0g" + holds + "dddd");
            share(check, x, byPush[holds], PUSH);
            share(check, x, byTwist[holds], TWIST);
            share(check, x, new long[] {1, 1}, TRAIL);
            share(check, x, new long[] {1, 1}, PADDLE);
        }
        share(check, Told.objectWith("p0m9d"), byPush[9], PUSH);
        share(check, Told.objectWith("p0c9d"), byTwist[9], TWIST);
        share(check, Told.objectWith("p0c4d"), byPush[9], PUSH);
        share(check, Told.objectWith("p0c3d"), byTwist[8], TWIST);
    }

    /** The CELL in which one acts, not the one where the boat comes to, nor those between. */
    private static void dryInTheCellOfTheAct(Check check) {
        PoleBehind x = Told.objectWith("p2g1g9g9g2g5");
        share(check, x, new long[] {9, 10}, PUSH);
        share(check, x, new long[] {18, 25}, PUSH, PUSH);
        share(check, x, new long[] {1, 10}, PADDLE, PUSH);
        share(check, x, new long[] {12, 25}, PADDLE, PADDLE, TWIST, PUSH);
    }

    private static void share(Check check, PoleBehind x, long[] due, int... acts) {
        String told = "dry by " + Arrays.toString(acts);
        check.due(told + ", upper", Told.dry(x, 0, acts), due[0]);
        check.due(told + ", lower", Told.dry(x, 1, acts), due[1]);
    }

    /** The lower number grows to 10 to the 15th where nothing can be left out, and is 1 where all can. */
    private static void dryInLeastTerms(Check check) {
        long nines = 1;
        long tens = 1;
        for (int n = 1; n <= 15; n++) {
            int[] acts = new int[n];
            Arrays.fill(acts, TWIST);
            nines *= 9;
            tens *= 10;
            share(check, twistedOn("g2"), new long[] {nines, tens}, acts);
            share(check, twistedOn("g8"), new long[] {power(3, n), power(5, n)}, acts);
        }
        int[] longest = new int[18];
        Arrays.fill(longest, TRAIL);
        share(check, twistedOn("g2"), new long[] {1, 1}, longest);
        Arrays.fill(longest, 3, 18, TWIST);
        share(check, twistedOn("g2"), new long[] {nines, tens}, longest);
        share(check, twistedOn("g8"), new long[] {14348907L, 30517578125L}, longest);
    }

    private static PoleBehind twistedOn(String cell) {
        return Told.objectWith("p1" + cell.repeat(16));
    }

    private static long power(long of, int n) {
        return n == 0 ? 1 : of * power(of, n - 1);
    }

    /** Each CELL in which there is a PUSH or a TWIST must be one that never holds: one of two each. */
    private static void oddsOfEachNumberOfCells(Check check) {
        for (int n = 0; n <= 15; n++) {
            PoleBehind x = Told.objectWith("p1" + "g0".repeat(16));
            int[] acts = new int[n];
            Arrays.fill(acts, TWIST);
            check.due("odds of " + n + " twists, upper", Told.odds(x, 0, acts), 1);
            check.due("odds of " + n + " twists, lower", Told.odds(x, 1, acts), 1L << n);
            Arrays.fill(acts, PADDLE);
            check.due("odds of " + n + " paddles, upper", Told.odds(x, 0, acts), 1);
            check.due("odds of " + n + " paddles, lower", Told.odds(x, 1, acts), 1);
        }
        PoleBehind deep = Told.objectWith("p0dc9g0dd");
        check.due("a deep one is alike, but no pole is used there", Told.odds(deep, 1, PADDLE, PUSH, TRAIL), 2);
        check.due("what a cell holds does not matter", Told.odds(Told.objectWith("p0g0d"), 1, PUSH), 2);
        check.due("nor does it where it holds most", Told.odds(Told.objectWith("p0c9d"), 1, PUSH), 2);
    }
}
