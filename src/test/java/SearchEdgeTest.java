/** Boundary cases of promises 8 to 11: the soonest, the surest, what a bridge costs. */
public final class SearchEdgeTest {
    private static final int UNKNOWN = -1, OUTSIDE = -2, STATE = -3, NONE = -9;
    private static final int PUSH = 0, TRAIL = 1, TWIST = 2, PADDLE = 3;
    private static final long LOST = Long.MIN_VALUE;

    public static void main(String[] args) {
        Check check = new Check("SearchEdgeTest");
        withoutARiver(check);
        surestInTheOrderTold(check);
        sureInTheOrderTold(check);
        costOfNoCell(check);
        soonestOnEachLength(check);
        soonestThatIsSlowest(check);
        surestOfEachLength(check);
        surestOfOneTurnMore(check);
        surestOfTheFewestTurns(check);
        surestThatIsFirstAsARow(check);
        sureInLeastTerms(check);
        costOfEachBridge(check);
        costAmongOtherBridges(check);
        check.end();
    }

    private static void withoutARiver(Check check) {
        for (World world : new World[] {World.NEW, World.ROWS}) {
            Still still = new Still(check, world);
            still.due("soonest()", PoleBehind::soonest, STATE, Still.NAMES_NONE);
            for (int n = 1; n <= 12; n++) {
                int of = n;
                still.due("surest(" + n + ", -1)", x -> x.surest(of, -1), STATE, Still.NAMES_NONE);
                still.due("sure(" + n + ", 0)", x -> x.sure(of, 0), LOST, Still.NAMES_NONE);
                still.due("sure(" + n + ", 1)", x -> x.sure(of, 1), LOST, Still.NAMES_NONE);
            }
            still.end();
        }
    }

    /** OUTSIDE: n (1 .. 12), q (-1 .. 11); STATE: there is no RIVER. */
    private static void surestInTheOrderTold(Check check) {
        for (World world : World.values()) {
            Still still = new Still(check, world);
            for (int n : Numbers.about(1, 12)) {
                for (int q : Numbers.about(-1, 11)) {
                    Due due = new Due().wrong(n < 1 || n > 12 || q < -1 || q > 11, OUTSIDE).wrong(world.cells() == 0, STATE);
                    if (due.isWrong()) {
                        still.due("surest(" + n + ", " + q + ")", x -> x.surest(n, q), due.or(0), Still.NAMES_NONE);
                    }
                }
            }
            still.end();
        }
    }

    private static void sureInTheOrderTold(Check check) {
        for (World world : World.values()) {
            Still still = new Still(check, world);
            for (int n : Numbers.about(1, 12)) {
                for (int which : Numbers.about(0, 1)) {
                    boolean isWrong = n < 1 || n > 12 || which < 0 || which > 1 || world.cells() == 0;
                    if (isWrong) {
                        still.due("sure(" + n + ", " + which + ")", x -> x.sure(n, which), LOST, Still.NAMES_NONE);
                    }
                }
            }
            still.end();
        }
    }

    private static void costOfNoCell(Check check) {
        for (World world : World.values()) {
            Still still = new Still(check, world);
            for (int c : Numbers.outside(0, world.cells() - 1)) {
                still.due("cost(" + c + ")", x -> x.cost(c), UNKNOWN, Still.NAMES_NONE);
            }
            PoleBehind made = world.make();
            for (int c = 0; c < world.cells(); c++) {
                int of = c;
                if (made.ofCell(c, 4) == 0) {
                    still.due("cost(" + c + "), no bridge", x -> x.cost(of), 0, Still.NAMES_NONE);
                }
            }
            still.end();
        }
    }

    /** Of 2 to 16 CELLS: turns of 1, 2, 3, 3 .. cells from pace 0 on, of 3, 3 .. from pace 3 on. */
    private static void soonestOnEachLength(Check check) {
        for (int cells = 2; cells <= 16; cells++) {
            PoleBehind x = Told.objectWith("p0" + "g0".repeat(cells));
            int way = cells - 1;
            int[] due = {way == 1 ? 1 : way <= 3 ? 2 : 2 + (way - 1) / 3, way <= 2 ? 1 : 1 + way / 3, (way + 2) / 3, (way + 2) / 3};
            for (int first = 0; first <= 3; first++) {
                x.pace(first);
                check.due("soonest by " + cells + " cells, pace " + first, x.soonest(), due[first]);
            }
        }
    }

    /** One can always paddle: with a bridge over each cell that is all, and where no ground is found. */
    private static void soonestThatIsSlowest(Check check) {
        for (int cells = 2; cells <= 16; cells++) {
            for (int first = 0; first <= 3; first++) {
                check.due("under " + cells + " bridges", Told.objectWith("p" + first + "g0^".repeat(cells)).soonest(), cells - 1);
                check.due("on " + cells + " deep ones under bridges", Told.objectWith("p" + first + "d^".repeat(cells)).soonest(), cells - 1);
            }
            check.due("on " + cells + " deep ones from no pace", Told.objectWith("p0" + "d".repeat(cells)).soonest(), cells - 1);
        }
    }

    /** Where one can but paddle, there is one plan of 1 to n turns if the tea is no more than n cells off. */
    private static void surestOfEachLength(Check check) {
        for (int way = 1; way <= 15; way++) {
            PoleBehind x = Told.objectWith("p0" + "d".repeat(way + 1));
            for (int n = 1; n <= 12; n++) {
                boolean is = way <= n;
                for (int q = -1; q <= 11; q++) {
                    check.due("surest(" + n + ", " + q + "), " + way + " cells off", x.surest(n, q),
                        !is || q >= way ? NONE : q == -1 ? way : PADDLE);
                }
                check.due("sure(" + n + ", 0), " + way + " cells off", x.sure(n, 0), is ? 1 : 0);
                check.due("sure(" + n + ", 1), " + way + " cells off", x.sure(n, 1), 1);
            }
        }
    }

    /** By twelve turns one is surely dry, by eleven there must be a push. */
    private static void surestOfOneTurnMore(Check check) {
        PoleBehind x = Told.objectWith("p0" + "c9".repeat(13));
        row(check, x, 12, PADDLE, PADDLE, PADDLE, PADDLE, PADDLE, PADDLE, PADDLE, PADDLE, PADDLE, PADDLE, PADDLE, PADDLE);
        check.due("sure(12, 0)", x.sure(12, 0), 1);
        check.due("sure(12, 1)", x.sure(12, 1), 1);
        row(check, x, 11, PADDLE, PUSH, TRAIL, PADDLE, PADDLE, PADDLE, PADDLE, PADDLE, PADDLE, PADDLE, PADDLE);
        check.due("sure(11, 0)", x.sure(11, 0), 1);
        check.due("sure(11, 1)", x.sure(11, 1), 10);
        check.due("the soonest is of far fewer", x.soonest(), 5);
    }

    /** Of several as sure the one of the fewest TURNS, though a later row comes first as a row. */
    private static void surestOfTheFewestTurns(Check check) {
        // Trails and paddles are all sure: one may stay for a while, but need not.
        row(check, Told.objectWith("p1g9d"), 12, PADDLE);
        row(check, Told.objectWith("p2g9dd"), 12, TRAIL, PADDLE);
        row(check, Told.objectWith("p0g0g0g0g0"), 2, PUSH, PUSH);
        row(check, Told.objectWith("p0g0g0g0g0"), 12, PUSH, PUSH);
        row(check, Told.objectWith("p3g1g0g0"), 12, TRAIL);
    }

    /** Then the first as a row: of all acts that are as sure the least one at the first place where they differ. */
    private static void surestThatIsFirstAsARow(Check check) {
        row(check, Told.objectWith("p1g0d"), 1, PUSH);
        row(check, Told.objectWith("p2g1d"), 1, TRAIL);
        row(check, Told.objectWith("p1g1d"), 1, TWIST);
        row(check, Told.objectWith("p1g2d"), 1, PADDLE);
        row(check, Told.objectWith("p1g0g1g2d"), 3, PUSH, TRAIL);
        row(check, Told.objectWith("p1g1g0^g2d"), 12, TWIST, PUSH);
        row(check, Told.objectWith("p1g1g2^g2d"), 12, TWIST, PADDLE, PADDLE);
        row(check, Told.objectWith("p3dddd"), 12, TRAIL, TRAIL);
    }

    /** That a plan's acts are the answers, one by one, and none follow up to the last q. */
    private static void row(Check check, PoleBehind x, int n, int... acts) {
        check.due("surest(" + n + ", -1)", x.surest(n, -1), acts.length);
        for (int q = 0; q <= 11; q++) {
            check.due("surest(" + n + ", " + q + ")", x.surest(n, q), q < acts.length ? acts[q] : NONE);
        }
    }

    /** By 15 cells in five turns each act but a trail is a twist; what holds nothing leaves 1 by 1. */
    private static void sureInLeastTerms(Check check) {
        String[] cells = {"g0", "g1", "g2", "g4", "g6", "g8"};
        long[][] due = {{1, 1}, {1, 1}, {59049, 100000}, {1024, 3125}, {16807, 100000}, {243, 3125}};
        for (int k = 0; k < cells.length; k++) {
            PoleBehind x = Told.objectWith("p3" + cells[k].repeat(16));
            check.due("sure(5, 0) on " + cells[k], x.sure(5, 0), due[k][0]);
            check.due("sure(5, 1) on " + cells[k], x.sure(5, 1), due[k][1]);
            check.due("sure(4, 0), there is none", x.sure(4, 0), 0);
            check.due("sure(4, 1), there is none", x.sure(4, 1), 1);
            check.due("surest(4, -1), there is none", x.surest(4, -1), NONE);
            check.due("surest(4, 0), there is none", x.surest(4, 0), NONE);
        }
    }

    /** SOONEST less what it would be without it: nothing over the first cell, and one without a bridge is as before. */
    private static void costOfEachBridge(Check check) {
        for (int c = 0; c < 10; c++) {
            for (int first = 0; first <= 3; first += 3) {
                PoleBehind x = Told.objectWith("p" + first + "g0".repeat(10));
                x.bridge(c, true);
                int with = x.soonest();
                x.bridge(c, false);
                int without = x.soonest();
                x.bridge(c, true);
                check.due("cost(" + c + ") from pace " + first, x.cost(c), with - without);
                check.due("soonest() behind it", x.soonest(), with);
                check.due("the bridge stands", x.ofCell(c, 4), 1);
            }
        }
        check.due("over the first cell", Told.objectWith("p3g0^g0g0g0").cost(0), 0);
        check.due("over the tea, one cell off", Told.objectWith("p3g0g0^").cost(1), 0);
        check.due("over the tea, two cells off", Told.objectWith("p3g0g0g0^").cost(2), 1);
        check.due("over the tea, three cells off", Told.objectWith("p3g0g0g0g0^").cost(3), 1);
        check.due("over the tea, four cells off", Told.objectWith("p3g0g0g0g0g0^").cost(4), 0);
        check.due("over the tea, six cells off", Told.objectWith("p3g0g0g0g0g0g0g0^").cost(6), 1);
        check.due("over the tea, from no pace", Told.objectWith("p0g0g0g0g0g0g0g0^").cost(6), 1);
        check.due("over a cell of the way, three cells off", Told.objectWith("p3g0g0^g0g0").cost(1), 1);
    }

    private static void costAmongOtherBridges(Check check) {
        PoleBehind x = Told.objectWith("p3g0g0^g0^g0^");
        check.due("soonest()", x.soonest(), 3);
        check.due("cost(1), the others stand", x.cost(1), 0);
        check.due("cost(2), the others stand", x.cost(2), 0);
        check.due("cost(3), the others stand", x.cost(3), 0);
        x.bridge(2, false);
        check.due("cost(1), the one over the tea stands", x.cost(1), 1);
        check.due("cost(2), there is none now", x.cost(2), 0);
        x.bridge(3, false);
        check.due("cost(1), the last one", x.cost(1), 1);
        check.due("many(2)", x.many(2), 1);
    }
}
