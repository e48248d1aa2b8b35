import java.util.Arrays;

/** Promises 6, 7 and 17: plans, how likely one is dry by them, odds. */
public final class PlanTest {
    private static final int UNKNOWN = -1, OUTSIDE = -2, STATE = -3, NONE = -9;
    private static final int PUSH = 0, TRAIL = 1, TWIST = 2, PADDLE = 3;
    private static final long LOST = Long.MIN_VALUE;

    public static void main(String[] args) {
        Check check = new Check("PlanTest");
        acts(check);
        stopsAtTheTea(check);
        noGround(check);
        lowBridges(check);
        firstWrong(check);
        planRefusals(check);
        planFaults(check);
        likelihood(check);
        longestPlan(check);
        dryRefusals(check);
        odds(check);
        oddsRefusals(check);
        check.end();
    }

    private static void acts(Check check) {
        int[][] paces = {{1, 0, 1, 1}, {2, 0, 1, 1}, {3, 1, 2, 1}, {3, 2, 3, 1}};
        PoleBehind x = Told.objectWith("p0g1g1g1g1g1");
        for (int first = 0; first <= 3; first++) {
            x.pace(first);
            for (int act = 0; act <= 3; act++) {
                String told = "act " + act + " at pace " + first;
                check.due(told + ": cell", Told.plan(x, 0, act), paces[first][act]);
                check.due(told + ": first wrong", Told.plan(x, 1, act), NONE);
                check.due(told + ": pace", Told.plan(x, 2, act), paces[first][act]);
            }
        }
        x.pace(2);
        check.due("no act: cell", Told.plan(x, 0), 0);
        check.due("no act: first wrong", Told.plan(x, 1), NONE);
        check.due("no act: pace", Told.plan(x, 2), 2);
        check.due("trail, trail, trail: cell", Told.plan(x, 0, TRAIL, TRAIL, TRAIL), 1);
        check.due("trail, trail, push, push: cell", Told.plan(x, 0, TRAIL, TRAIL, PUSH, PUSH), 4);
    }

    private static void stopsAtTheTea(Check check) {
        PoleBehind x = Told.objectWith("p3g1g1g1");
        check.due("push past the tea: cell", Told.plan(x, 0, PUSH), 2);
        check.due("push past the tea: pace", Told.plan(x, 2, PUSH), 3);
        for (int act = 0; act <= 3; act++) {
            check.due("act " + act + " at the tea", Told.plan(x, 1, PUSH, act), 1);
            check.due("act " + act + " at the tea, by a trail", Told.plan(x, 1, TRAIL, act), 1);
        }
    }

    private static void noGround(Check check) {
        PoleBehind x = Told.objectWith("p1dg1dg1");
        check.due("push in a deep one", Told.plan(x, 1, PUSH), 0);
        check.due("twist in a deep one", Told.plan(x, 1, TWIST), 0);
        check.due("trail in a deep one", Told.plan(x, 1, TRAIL), NONE);
        check.due("paddle in a deep one", Told.plan(x, 1, PADDLE), NONE);
        check.due("push to a deep one", Told.plan(x, 1, PADDLE, PADDLE, PADDLE), NONE);
        check.due("push over a deep one", Told.plan(x, 0, PADDLE, PUSH), 3);
        check.due("twist to a deep one", Told.plan(x, 1, PADDLE, TWIST, TWIST), 2);
    }

    private static void lowBridges(Check check) {
        PoleBehind x = Told.objectWith("p1g1^g1g1^g1g1^");
        check.due("from under a bridge", Told.plan(x, 1, PADDLE), NONE);
        check.due("through, by pace 2", Told.plan(x, 1, PADDLE, PUSH), 1);
        check.due("to, by pace 2", Told.plan(x, 1, PUSH), 0);
        check.due("to, by pace 1", Told.plan(x, 0, TWIST, TWIST), 2);
        check.due("from under one, by pace 2, to no bridge but through to one", Told.plan(x, 1, TWIST, TWIST, PUSH), 2);
        x.pace(3);
        check.due("by pace 3", Told.plan(x, 1, TWIST), 0);
        check.due("by pace 2", Told.plan(x, 1, TRAIL), 0);
        check.due("paddle at any pace", Told.plan(x, 0, PADDLE), 1);
        PoleBehind y = Told.objectWith("p3g1g1^");
        check.due("fewer cells to the tea", Told.plan(y, 1, TWIST), 0);
        y.pace(2);
        check.due("fewer cells to the tea, by pace 2", Told.plan(y, 1, TWIST), 0);
        y.pace(1);
        check.due("to the tea by pace 1", Told.plan(y, 0, TWIST), 1);
        PoleBehind z = Told.objectWith("p1g1g1g1g1^g1");
        check.due("just short of a bridge", Told.plan(z, 0, PUSH), 2);
        check.due("from a cell ahead of it by pace 2", Told.plan(z, 1, PUSH, TWIST), 1);
    }

    private static void firstWrong(Check check) {
        PoleBehind x = Told.objectWith("p0g1dg1g1^g1");
        check.due("the first of two that can't be", Told.plan(x, 1, PUSH, PUSH, TWIST), 1);
        check.due("cell", Told.plan(x, 0, PUSH, PUSH, TWIST), -101);
        check.due("pace", Told.plan(x, 2, PUSH, PUSH, TWIST), -101);
        check.due("the last", Told.plan(x, 1, PUSH, PADDLE, PADDLE, PADDLE, PADDLE), 4);
        PoleBehind y = Told.objectWith("p0dd");
        check.due("the very first: first wrong", Told.plan(y, 1, PUSH), 0);
        check.due("the very first: cell", Told.plan(y, 0, PUSH), -100);
        check.due("the very first: pace", Told.plan(y, 2, PUSH), -100);
    }

    private static void planRefusals(Check check) {
        PoleBehind x = new PoleBehind();
        check.due("plan(4, 3, 0, 19, 3)", x.plan(4, 3, 0, 19, 3), UNKNOWN);
        check.due("plan(-1, 3, 0, 19, 3)", x.plan(-1, 3, 0, 19, 3), UNKNOWN);
        check.due("plan(3, 3, 0, 0, 0)", x.plan(3, 3, 0, 0, 0), OUTSIDE);
        check.due("plan(3, -1, 0, 0, 0)", x.plan(3, -1, 0, 0, 0), OUTSIDE);
        check.due("plan(3, 0, 0, -1, 0)", x.plan(3, 0, 0, -1, 0), OUTSIDE);
        check.due("plan(3, 0, 0, 19, 0)", x.plan(3, 0, 0, 19, 0), OUTSIDE);
        check.due("plan(3, 0, 0, 0, 3)", x.plan(3, 0, 0, 0, 3), OUTSIDE);
        check.due("plan(3, 0, 0, 0, -1)", x.plan(3, 0, 0, 0, -1), OUTSIDE);
        check.due("plan(3, 0, 0, 0, 0)", x.plan(3, 0, 0, 0, 0), STATE);
        check.due("fault()", x.fault(), 0);
    }

    private static void planFaults(Check check) {
        PoleBehind x = Told.objectWith("p1g1g1g1g1g1g1g1g1");
        check.due("nothing", x.plan(3, 2, -1, 1, 0), -11);
        check.due("fault()", x.fault(), 1);
        Told.acts(x, 0, 1, 2, 3, 4, -1, 3);
        check.due("another lane", x.plan(3, 1, -1, 1, 0), -12);
        check.due("fault()", x.fault(), 2);
        check.due("outside ahead of a cast", x.plan(3, 1, 0, 19, 0), OUTSIDE);
        check.due("fault()", x.fault(), 0);
        check.due("from -1 on", x.plan(3, 2, -1, 1, 0), -13);
        check.due("fault()", x.fault(), 3);
        check.due("none from 8 on", x.plan(3, 2, 8, 0, 0), -13);
        check.due("none from 7 on", x.plan(3, 2, 7, 0, 0), 0);
        check.due("one from 7 on", x.plan(3, 2, 7, 1, 0), -13);
        check.due("index ahead of an act", x.plan(3, 2, 4, 4, 0), -13);
        check.due("act 4", x.plan(3, 2, 4, 1, 0), OUTSIDE);
        check.due("act -1", x.plan(3, 2, 5, 1, 0), OUTSIDE);
        check.due("act 3", x.plan(3, 2, 6, 1, 0), 1);
        check.due("an act outside ahead of a first wrong", Told.plan(x, 1, 0, 0, 0, 0, 0, 4), OUTSIDE);
        check.due("so many from the most on", x.plan(3, 2, Integer.MAX_VALUE, 18, 0), -13);
    }

    private static void likelihood(Check check) {
        PoleBehind x = Told.objectWith("p0g3m2c9g0dg5g1");
        share(check, x, 1, 1);
        share(check, x, 7, 10, PUSH);
        share(check, x, 9, 10, TWIST);
        share(check, x, 1, 1, TRAIL);
        share(check, x, 1, 1, PADDLE);
        share(check, x, 7, 10, PADDLE, PUSH);
        share(check, x, 9, 10, PADDLE, TWIST);
        share(check, x, 1, 10, PADDLE, PADDLE, PUSH);
        share(check, x, 3, 5, PADDLE, PADDLE, TWIST);
        share(check, x, 49, 100, PUSH, PUSH);
        share(check, x, 49, 100, PUSH, PUSH, PUSH);
        share(check, x, 189, 500, PUSH, TWIST, TWIST, TWIST);
        share(check, x, 189, 1000, PUSH, TWIST, TWIST, TWIST, PADDLE, PUSH);
        check.due("by a plan that can't be", Told.dry(x, 0, PUSH, PUSH, PUSH, PUSH), LOST);
        check.due("fault()", x.fault(), 0);
    }

    private static void share(Check check, PoleBehind x, long upper, long lower, int... acts) {
        String told = "dry by " + Arrays.toString(acts);
        check.due(told + ", upper", Told.dry(x, 0, acts), upper);
        check.due(told + ", lower", Told.dry(x, 1, acts), lower);
    }

    private static void longestPlan(Check check) {
        int[] acts = new int[18];
        Arrays.fill(acts, TRAIL);
        share(check, Told.objectWith("p1g3g3"), 1, 1, acts);
        Arrays.fill(acts, 3, 18, TWIST);
        share(check, Told.objectWith("p1" + "g3".repeat(16)), 205891132094649L, 1000000000000000L, acts);
        share(check, Told.objectWith("p1" + "c8".repeat(16)), 14348907L, 30517578125L, acts);
        for (int t = 0; t < 18; t++) {
            acts[t] = t % 2 == 0 ? PUSH : TRAIL;
        }
        share(check, Told.objectWith("p0" + "m8".repeat(16)), 1, 1000000000L, acts);
    }

    private static void dryRefusals(Check check) {
        PoleBehind x = new PoleBehind();
        check.due("no river", x.dry(3, 0, 0, 0, 0), LOST);
        check.due("fault()", x.fault(), 0);
        Told.river(x, "p1g1g1g1g1");
        check.due("nothing", x.dry(3, 2, -1, 1, 0), LOST);
        check.due("fault()", x.fault(), 1);
        Told.acts(x, 0, 3, 4, -1);
        check.due("dry(3, 2, 0, 2, 0)", x.dry(3, 2, 0, 2, 0), 9);
        check.due("dry(3, 2, 0, 2, 1)", x.dry(3, 2, 0, 2, 1), 10);
        for (int[] call : ASKED_WRONG) {
            String told = "dry of " + Arrays.toString(call);
            check.due(told, x.dry(call[0], call[1], call[2], call[3], call[4]), LOST);
            check.due(told + ", fault()", x.fault(), call[5]);
        }
    }

    /** Calls of dry and odds that answer LOST, with the fault that they come to. */
    private static final int[][] ASKED_WRONG = {
        {4, 2, 0, 2, 0, 0}, {-1, 2, 0, 2, 0, 0}, {3, 3, 0, 2, 0, 0}, {3, -1, 0, 2, 0, 0},
        {3, 2, 0, -1, 0, 0}, {3, 2, 0, 19, 0, 0}, {3, 2, 0, 2, 2, 0}, {3, 2, 0, 2, -1, 0},
        {3, 1, 9, 2, 0, 2}, {3, 1, 9, 2, 2, 0}, {2, 2, 9, 2, 0, 1}, {3, 2, -1, 0, 0, 3}, {3, 2, 5, 0, 0, 3},
        {3, 2, 3, 2, 0, 3}, {3, 2, 0, 3, 0, 0}, {3, 2, 3, 1, 0, 0}};

    private static void odds(Check check) {
        PoleBehind x = Told.objectWith("p1g0dm9^g1dg0g1g1");
        chance(check, x, 1);
        chance(check, x, 1, PADDLE, PADDLE, TRAIL);
        chance(check, x, 2, TWIST);
        chance(check, x, 2, TRAIL, TRAIL, PUSH, PADDLE);
        chance(check, x, 4, TWIST, PADDLE, TWIST);
        chance(check, x, 8, TWIST, PADDLE, TWIST, PUSH);
        chance(check, x, 16, TWIST, PADDLE, TWIST, PUSH, TWIST);
        check.due("by a plan that can't be", Told.odds(x, 1, TWIST, PUSH), LOST);
        int[] acts = new int[15];
        Arrays.fill(acts, TWIST);
        chance(check, Told.objectWith("p1" + "m9".repeat(16)), 32768, acts);
    }

    private static void chance(Check check, PoleBehind x, long lower, int... acts) {
        String told = "odds of " + Arrays.toString(acts);
        check.due(told + ", upper", Told.odds(x, 0, acts), 1);
        check.due(told + ", lower", Told.odds(x, 1, acts), lower);
    }

    private static void oddsRefusals(Check check) {
        PoleBehind x = new PoleBehind();
        check.due("no river", x.odds(3, 0, 0, 0, 0), LOST);
        Told.river(x, "p1g1g1g1g1");
        Told.acts(x, 0, 3, 4, -1);
        check.due("odds(3, 2, 0, 2, 1)", x.odds(3, 2, 0, 2, 1), 2);
        for (int[] call : ASKED_WRONG) {
            String told = "odds of " + Arrays.toString(call);
            check.due(told, x.odds(call[0], call[1], call[2], call[3], call[4]), LOST);
            check.due(told + ", fault()", x.fault(), call[5]);
        }
    }
}
