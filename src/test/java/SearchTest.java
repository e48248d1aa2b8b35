/** Promises 8 to 11: the soonest, the surest, what a bridge costs. */
public final class SearchTest {
    private static final int UNKNOWN = -1, OUTSIDE = -2, STATE = -3, NONE = -9;
    private static final int PUSH = 0, TRAIL = 1, TWIST = 2, PADDLE = 3;
    private static final long LOST = Long.MIN_VALUE;

    public static void main(String[] args) {
        Check check = new Check("SearchTest");
        soonest(check);
        surest(check);
        surestOfSeveral(check);
        surestAsTheRiverChanges(check);
        surestRefusals(check);
        cost(check);
        costRefusals(check);
        check.end();
    }

    private static void soonest(Check check) {
        check.due("no river", new PoleBehind().soonest(), STATE);
        String[] rivers = {"p0dd", "p3dd^", "p1g1g1g1", "p1g1g1g1g1g1g1", "p0" + "g1".repeat(16), "p3" + "g1".repeat(16),
            "p3" + "d".repeat(16), "p0" + "d".repeat(16), "p3" + "g1^".repeat(16), "p2dg1dg1dg1dg1", "p3dddg1g1g1g1"};
        int[] turns = {1, 1, 1, 2, 6, 5, 14, 15, 15, 4, 4};
        for (int k = 0; k < rivers.length; k++) {
            check.due("soonest on " + rivers[k], Told.objectWith(rivers[k]).soonest(), turns[k]);
        }
    }

    private static void surest(Check check) {
        // Of 15 cells to go in five turns each needs a pace of 3: by a twist the pole stays least.
        PoleBehind x = Told.objectWith("p3" + "c9".repeat(16));
        row(check, x, 4);
        share(check, x, 4, 0, 1);
        row(check, x, 5, TWIST, TWIST, TWIST, TWIST, TWIST);
        share(check, x, 5, 243, 3125);
        // By trails and paddles one is surely dry: 2 cells first, then one by one.
        PoleBehind y = Told.objectWith("p3" + "c9".repeat(13));
        row(check, y, 11, TRAIL, TRAIL, PADDLE, PADDLE, PADDLE, PADDLE, PADDLE, PADDLE, PADDLE, PADDLE, PADDLE);
        share(check, y, 11, 1, 1);
        row(check, y, 12, TRAIL, TRAIL, PADDLE, PADDLE, PADDLE, PADDLE, PADDLE, PADDLE, PADDLE, PADDLE, PADDLE);
        PoleBehind z = Told.objectWith("p0" + "d".repeat(13));
        row(check, z, 11);
        row(check, z, 12, PADDLE, PADDLE, PADDLE, PADDLE, PADDLE, PADDLE, PADDLE, PADDLE, PADDLE, PADDLE, PADDLE, PADDLE);
        share(check, z, 12, 1, 1);
        row(check, Told.objectWith("p0" + "d".repeat(14)), 12);
        // A deep cell ahead lets no twist be: 2 cells by a trail, and the pole that finds ground there.
        row(check, Told.objectWith("p3dg1g9g1g1g1"), 2, TRAIL, PUSH);
        share(check, Told.objectWith("p3dg1g9g1g1g1"), 2, 1, 10);
        row(check, Told.objectWith("p3dg1dg1g1g1"), 2);
    }

    private static void surestOfSeveral(Check check) {
        // As sure by each act but a push, or by all: the fewest turns first, then the first row.
        row(check, Told.objectWith("p1g0g0"), 12, PUSH);
        row(check, Told.objectWith("p1g1g0"), 12, TWIST);
        row(check, Told.objectWith("p2g1g0"), 12, TRAIL);
        row(check, Told.objectWith("p1g2g0"), 12, PADDLE);
        row(check, Told.objectWith("p1dd"), 12, PADDLE);
        row(check, Told.objectWith("p2dd"), 12, TRAIL);
        row(check, Told.objectWith("p1g0g0g0"), 12, PUSH);
        row(check, Told.objectWith("p1g1g0g0"), 12, TWIST, PUSH);
        row(check, Told.objectWith("p1g1g0g0"), 1, PUSH);
        share(check, Told.objectWith("p1g1g0g0"), 1, 9, 10);
        share(check, Told.objectWith("p1g1g0g0"), 2, 1, 1);
        row(check, Told.objectWith("p0g0g0g0g0"), 12, PUSH, PUSH);
        row(check, Told.objectWith("p0g2g2g2g2"), 2, PADDLE, PUSH);
        share(check, Told.objectWith("p0g2g2g2g2"), 2, 4, 5);
        row(check, Told.objectWith("p0g2g2g2g2"), 3, PADDLE, PADDLE, PADDLE);
        share(check, Told.objectWith("p0g2g2g2g2"), 3, 1, 1);
    }

    private static void surestAsTheRiverChanges(Check check) {
        PoleBehind x = Told.objectWith("p0g0g0g0g0");
        row(check, x, 12, PUSH, PUSH);
        x.bridge(3, true);
        row(check, x, 12, PUSH, TWIST, TWIST);
        x.cost(3);
        row(check, x, 12, PUSH, TWIST, TWIST);
        x.pace(3);
        row(check, x, 12, TRAIL, TRAIL);
        x.bridge(3, false);
        row(check, x, 12, PUSH);
        check.due("river", Told.river(x, "p1g9g9"), 2);
        row(check, x, 12, PADDLE);
        check.due("a refused river", Told.river(x, "p0g9"), -104);
        row(check, x, 12, PADDLE);
    }

    private static void surestRefusals(Check check) {
        PoleBehind x = new PoleBehind();
        int[][] outside = {{0, 0}, {13, 0}, {-1, 0}, {1, -2}, {1, 12}, {Integer.MIN_VALUE, 0}, {1, Integer.MAX_VALUE}};
        for (int round = 0; round < 2; round++) {
            for (int[] call : outside) {
                check.due("surest(" + call[0] + ", " + call[1] + ")", x.surest(call[0], call[1]), OUTSIDE);
            }
            check.due("surest(1, -1)", x.surest(1, -1), round == 0 ? STATE : 1);
            check.due("surest(12, 11)", x.surest(12, 11), round == 0 ? STATE : NONE);
            check.due("sure(1, 0)", x.sure(1, 0), round == 0 ? LOST : 1);
            check.due("sure(12, 1)", x.sure(12, 1), round == 0 ? LOST : 1);
            check.due("sure(0, 0)", x.sure(0, 0), LOST);
            check.due("sure(13, 0)", x.sure(13, 0), LOST);
            check.due("sure(1, -1)", x.sure(1, -1), LOST);
            check.due("sure(1, 2)", x.sure(1, 2), LOST);
            Told.river(x, "p0dd");
        }
        x.put(4, 0, 0);
        x.cell(0, 60, 0);
        x.surest(0, 0);
        x.sure(0, 0);
        check.due("fault(), which these calls do not name", x.fault(), 3);
    }

    private static void cost(Check check) {
        String[] rivers = {"p0g1g1g1^g1", "p3" + "g1".repeat(3) + "g1^" + "g1".repeat(12), "p3" + "g1".repeat(15) + "g1^",
            "p1g1^g1g1g1", "p3g1g1^g1^g1", "p0g1g1dg1^g1"};
        int[] bridged = {2, 3, 15, 0, 1, 3};
        int[] costs = {1, 2, 1, 0, 0, 1};
        for (int k = 0; k < rivers.length; k++) {
            PoleBehind x = Told.objectWith(rivers[k]);
            int bridges = x.many(2);
            check.due("cost on " + rivers[k], x.cost(bridged[k]), costs[k]);
            check.due("cost on " + rivers[k] + ", again", x.cost(bridged[k]), costs[k]);
            check.due("many(2)", x.many(2), bridges);
            check.due("no bridge, no cost", x.cost(k == 3 ? 1 : 0), 0);
            check.due("many(2)", x.many(2), bridges);
        }
    }

    private static void costRefusals(Check check) {
        PoleBehind x = new PoleBehind();
        check.due("cost(0), no river", x.cost(0), UNKNOWN);
        Told.river(x, "p1g1g1");
        check.due("cost(-1)", x.cost(-1), UNKNOWN);
        check.due("cost(2)", x.cost(2), UNKNOWN);
        check.due("cost(16)", x.cost(16), UNKNOWN);
        check.due("cost(1)", x.cost(1), 0);
    }

    /** That a plan's acts are the answers, one by one, and none follow. */
    private static void row(Check check, PoleBehind x, int n, int... acts) {
        check.due("surest(" + n + ", -1)", x.surest(n, -1), acts.length == 0 ? NONE : acts.length);
        for (int q = 0; q < 12; q++) {
            check.due("surest(" + n + ", " + q + ")", x.surest(n, q), q < acts.length ? acts[q] : NONE);
        }
    }

    private static void share(Check check, PoleBehind x, int n, long upper, long lower) {
        check.due("sure(" + n + ", 0)", x.sure(n, 0), upper);
        check.due("sure(" + n + ", 1)", x.sure(n, 1), lower);
    }
}
