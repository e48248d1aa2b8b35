import java.util.Arrays;

/** Boundary cases of promises 12 to 16: readings, ways, the kinds and the muds that a cell may be of. */
public final class SeenEdgeTest {
    private static final int UNKNOWN = -1, OUTSIDE = -2, STATE = -3, FULL = -4, NONE = -9, NULL = -11, CAST = -12, INDEX = -13;
    private static final int PUSH = 0, TRAIL = 1, TWIST = 2, PADDLE = 3;
    private static final int ALL_KINDS = 7, ALL_MUDS = 1023, MOST_PARTS = 1000000000;

    public static void main(String[] args) {
        Check check = new Check("SeenEdgeTest");
        readingInTheOrderTold(check);
        readingsUpToTheLast(check);
        eachTurnAndCell(check);
        backInTheOrderTold(check);
        backOfEachNumber(check);
        waysInTheOrderTold(check);
        waysOfEachNumberOfTurns(check);
        waysByTheReadingOfATurn(check);
        waysByEightReadings(check);
        waysFromTheTea(check);
        setsInTheOrderTold(check);
        setsFarOutside(check);
        setsOfEachShare(check);
        setsOfPlansOfEachLength(check);
        setsWhereTheMostIsHeld(check);
        setsOfDeepAndUnusedCells(check);
        setsOfAFirstWrong(check);
        check.end();
    }

    /** UNKNOWN: CELL; OUTSIDE: t (1 .. 12); FULL. */
    private static void readingInTheOrderTold(Check check) {
        for (World world : World.values()) {
            Still still = new Still(check, world);
            for (int t : Numbers.about(1, 12)) {
                for (int c : Numbers.about(0, Math.max(1, world.cells()) - 1)) {
                    Due due = new Due().wrong(c < 0 || c >= world.cells(), UNKNOWN).wrong(t < 1 || t > 12, OUTSIDE)
                        .wrong(world.readings() == 8, FULL);
                    if (due.isWrong()) {
                        still.due("reading(" + t + ", " + c + ")", x -> x.reading(t, c), due.or(0), Still.NAMES_NONE);
                    }
                }
            }
            still.end();
        }
    }

    /** READINGS, 8 at most, each numbered by how many there are ahead of it (the first one 0). */
    private static void readingsUpToTheLast(Check check) {
        PoleBehind x = Told.objectWith("p0dddd");
        for (int round = 0; round < 3; round++) {
            for (int k = 0; k < 8; k++) {
                check.due("many(3)", x.many(3), k);
                check.due("reading " + k, x.reading(12, 3), k);
            }
            check.due("a ninth one", x.reading(1, 0), FULL);
            check.due("many(3)", x.many(3), 8);
            check.due("one taken back", x.back(1), 7);
            check.due("one more", x.reading(1, 0), 7);
            check.due("and no more", x.reading(1, 0), FULL);
            check.due("all taken back", x.back(8), 0);
        }
    }

    private static void eachTurnAndCell(Check check) {
        PoleBehind x = Told.objectWith("p0" + "d".repeat(16));
        for (int t = 1; t <= 12; t++) {
            for (int c = 0; c < 16; c++) {
                check.due("reading(" + t + ", " + c + ")", x.reading(t, c), 0);
                x.back(1);
            }
        }
    }

    private static void backInTheOrderTold(Check check) {
        for (World world : World.values()) {
            Still still = new Still(check, world);
            for (int k : Numbers.outside(0, world.readings())) {
                still.due("back(" + k + ")", x -> x.back(k), OUTSIDE, Still.NAMES_NONE);
            }
            still.due("back(0)", x -> x.back(0), world.readings(), Still.NAMES_NONE);
            still.end();
        }
    }

    /** The last k READINGS are taken back, and the others stay as they were. */
    private static void backOfEachNumber(Check check) {
        for (int there = 0; there <= 8; there++) {
            for (int k = 0; k <= there; k++) {
                // Reading of turn t + 1: still in cell 0. With each of them the ways are half as many.
                PoleBehind x = Told.objectWith("p0" + "d".repeat(16));
                for (int t = 0; t < there; t++) {
                    x.reading(t + 1, 0);
                }
                check.due("back(" + k + ") of " + there, x.back(k), there - k);
                check.due("many(3)", x.many(3), there - k);
                check.due("ways(7, -1), " + (there - k) + " left", x.ways(7, -1), 1 << Math.max(0, 7 - (there - k)));
                check.due("one more than are left", x.back(there - k + 1), OUTSIDE);
            }
        }
    }

    /** OUTSIDE: n (0 .. 7), q (-1 .. 6); STATE: there is no RIVER. */
    private static void waysInTheOrderTold(Check check) {
        for (World world : World.values()) {
            Still still = new Still(check, world);
            for (int n : Numbers.about(0, 7)) {
                for (int q : Numbers.about(-1, 6)) {
                    Due due = new Due().wrong(n < 0 || n > 7 || q < -1 || q > 6, OUTSIDE).wrong(world.cells() == 0, STATE);
                    if (due.isWrong()) {
                        still.due("ways(" + n + ", " + q + ")", x -> x.ways(n, q), due.or(0), Still.NAMES_NONE);
                    }
                }
            }
            still.end();
        }
    }

    /** Of deep cells from no pace on each act is a trail (stay) or a paddle (one on). */
    private static void waysOfEachNumberOfTurns(Check check) {
        PoleBehind x = Told.objectWith("p0" + "d".repeat(16));
        for (int n = 0; n <= 7; n++) {
            check.due("ways(" + n + ", -1)", x.ways(n, -1), 1 << n);
            for (int q = 0; q <= 6; q++) {
                check.due("ways(" + n + ", " + q + ")", x.ways(n, q), q < n ? TRAIL : NONE);
            }
        }
        PoleBehind all = Told.objectWith("p0" + "g0".repeat(16));
        check.due("ways(0, -1), of all acts", all.ways(0, -1), 1);
        check.due("ways(5, -1), of all acts", all.ways(5, -1), 1024);
        check.due("ways(5, 4), of all acts", all.ways(5, 4), PUSH);
        check.due("ways(5, 5), of all acts", all.ways(5, 5), NONE);
        check.due("ways(6, 5), to the tea by the last act", all.ways(6, 5), PUSH);
        check.due("ways(7, 5), not yet to the tea", all.ways(7, 5), TRAIL);
        PoleBehind few = Told.objectWith("p0g0g0g0g0");
        check.due("ways(2, 0), three cells off", few.ways(2, 0), PUSH);
        check.due("ways(2, 1), three cells off", few.ways(2, 1), PUSH);
        check.due("ways(3, 1), not yet to the tea", few.ways(3, 1), TRAIL);
    }

    /** All READINGS of TURNS 1 to n are so (others do not matter): of turn n it does, of turn n + 1 not. */
    private static void waysByTheReadingOfATurn(Check check) {
        int[] rows = {1, 7, 21, 35, 35, 21, 7, 1};
        for (int t = 1; t <= 12; t++) {
            PoleBehind x = Told.objectWith("p0" + "d".repeat(16));
            x.reading(t, 0);
            for (int n = 0; n <= 7; n++) {
                check.due("still there behind turn " + t + ": ways(" + n + ", -1)", x.ways(n, -1), 1 << (t <= n ? n - t : n));
            }
            x.back(1);
            x.reading(t, 15);
            for (int n = 0; n <= 7; n++) {
                check.due("never there behind turn " + t + ": ways(" + n + ", -1)", x.ways(n, -1), t <= n ? 0 : 1 << n);
                for (int q = 0; q <= 6; q++) {
                    check.due("never there behind turn " + t + ": ways(" + n + ", " + q + ")", x.ways(n, q), t <= n || q >= n ? NONE : TRAIL);
                }
            }
        }
        for (int c = 0; c <= 7; c++) {
            PoleBehind x = Told.objectWith("p0" + "d".repeat(16));
            x.reading(7, c);
            check.due("in cell " + c + " behind turn 7", x.ways(7, -1), rows[c]);
            for (int q = 0; q < 7; q++) {
                check.due("the first row there, act " + q, x.ways(7, q), q < 7 - c ? TRAIL : PADDLE);
            }
        }
    }

    private static void waysByEightReadings(Check check) {
        PoleBehind x = Told.objectWith("p0" + "d".repeat(16));
        int[] cells = {1, 1, 2, 2, 3, 3, 4};
        for (int t = 1; t <= 7; t++) {
            x.reading(t, cells[t - 1]);
        }
        check.due("the eighth one, once more the same", x.reading(7, 4), 7);
        for (int n = 0; n <= 7; n++) {
            check.due("ways(" + n + ", -1)", x.ways(n, -1), 1);
            for (int q = 0; q <= 6; q++) {
                check.due("ways(" + n + ", " + q + ")", x.ways(n, q), q >= n ? NONE : q % 2 == 0 ? PADDLE : TRAIL);
            }
        }
        x.back(1);
        x.reading(1, 0);
        check.due("two of turn 1 that are not alike", x.ways(1, -1), 0);
        check.due("none ahead of them", x.ways(0, -1), 1);
    }

    /** The boat may have been at the tea behind turn n, but none can act there. */
    private static void waysFromTheTea(Check check) {
        PoleBehind x = Told.objectWith("p0ddd");
        x.reading(2, 2);
        check.due("ways(2, -1)", x.ways(2, -1), 1);
        check.due("ways(3, -1)", x.ways(3, -1), 0);
        check.due("ways(3, 0)", x.ways(3, 0), NONE);
        x.back(1);
        x.reading(3, 2);
        check.due("ways(3, -1)", x.ways(3, -1), 2);
        check.due("ways(4, -1)", x.ways(4, -1), 0);
    }

    /** UNKNOWN: CELL, SHEET; OUTSIDE: lane, n, up; CAST; NULL; INDEX; OUTSIDE: an ACT; -100 less a FIRST WRONG. */
    private static void setsInTheOrderTold(Check check) {
        for (World world : World.values()) {
            Still still = new Still(check, world);
            for (int c : new int[] {-1, 0, world.cells() - 1, world.cells()}) {
                for (int sheet = -1; sheet <= 4; sheet++) {
                    for (int lane = -1; lane <= 3; lane++) {
                        int length = Math.max(0, world.length(sheet));
                        for (int i : new int[] {-1, 0, length - 8, length, Integer.MAX_VALUE}) {
                            setsOfAStretch(still, world, new int[] {c, sheet, lane, i});
                        }
                    }
                }
            }
            still.end();
        }
    }

    private static void setsOfAStretch(Still still, World world, int[] a) {
        for (int n : new int[] {-1, 0, 1, 8, 9, 10}) {
            for (int up : new int[] {-1, 0, 1, MOST_PARTS, MOST_PARTS + 1}) {
                oneSet(still, world, new int[] {a[0], a[1], a[2], a[3], n, up});
            }
        }
    }

    private static void oneSet(Still still, World world, int[] a) {
        int sheet = a[1];
        int lane = a[2];
        int i = a[3];
        int n = a[4];
        int up = a[5];
        boolean isText = sheet == World.TEXT && i < world.text().length();
        boolean isPushed = sheet == World.PUSHES || sheet == World.TEXT;
        int wrong = world == World.RIVER ? 0 : 2;
        Due due = new Due().wrong(a[0] < 0 || a[0] >= world.cells() || !world.hasSheet(sheet), UNKNOWN)
            .wrong(lane < 0 || lane > 2 || n < 0 || n > 9 || up < 0 || up > MOST_PARTS, OUTSIDE)
            .wrong(!world.hasNothing(sheet) && lane != world.lane(sheet), CAST).wrong(world.hasNothing(sheet), NULL)
            .wrong(i < 0 || (long) i + n > world.length(sheet), INDEX).wrong(n > 0 && isText, OUTSIDE)
            .wrong(n > wrong && isPushed, -100 - wrong);
        boolean isSure = n == 0 && up == 1 || n == 9 && up == MOST_PARTS && !isPushed;
        // The one push of a plan that can be: by 1 of 10 parts dry, if there were 9 tenths of mud.
        boolean isOfMostMud = isPushed && n == 1 && up == 1 && a[0] == 0;
        String told = " of " + Arrays.toString(a);
        still.due("kinds" + told, x -> x.kinds(a[0], sheet, lane, i, n, up), due.or(isSure ? ALL_KINDS : 0), due.fault());
        still.due("muds" + told, x -> x.muds(a[0], sheet, lane, i, n, up), due.or(isSure ? ALL_MUDS : isOfMostMud ? 1 << 9 : 0), due.fault());
    }

    private static void setsFarOutside(Check check) {
        Still still = new Still(check, World.FULL);
        for (int c : Numbers.outside(0, 15)) {
            bothSets(still, new int[] {c, 2, 2, 0, 9, MOST_PARTS}, UNKNOWN, 0);
        }
        for (int k : Numbers.outside(0, 3)) {
            bothSets(still, new int[] {0, k, 2, 0, 9, MOST_PARTS}, UNKNOWN, 0);
        }
        for (int lane : Numbers.outside(0, 2)) {
            bothSets(still, new int[] {0, 2, lane, 0, 9, MOST_PARTS}, OUTSIDE, 0);
        }
        for (int n : Numbers.outside(0, 9)) {
            bothSets(still, new int[] {0, 2, 2, 0, n, MOST_PARTS}, OUTSIDE, 0);
        }
        for (int up : new int[] {-1, -2, Integer.MIN_VALUE, MOST_PARTS + 1, MOST_PARTS + 2, Integer.MAX_VALUE}) {
            bothSets(still, new int[] {0, 2, 2, 0, 9, up}, OUTSIDE, 0);
        }
        for (int i : Numbers.outside(0, 60)) {
            bothSets(still, new int[] {0, 2, 2, i, 9, MOST_PARTS}, INDEX, 3);
            bothSets(still, new int[] {0, 2, 2, i, 0, MOST_PARTS}, INDEX, 3);
        }
        for (int n = 1; n <= 9; n++) {
            // From there on so many numbers end one beyond the greatest int, or one beyond the row.
            bothSets(still, new int[] {0, 2, 2, Integer.MAX_VALUE - n + 1, n, 1}, INDEX, 3);
            bothSets(still, new int[] {0, 2, 2, 61 - n, n, 1}, INDEX, 3);
        }
        still.end();
    }

    private static void bothSets(Still still, int[] a, int answer, int fault) {
        String told = " of " + Arrays.toString(a);
        still.due("kinds" + told, x -> x.kinds(a[0], a[1], a[2], a[3], a[4], a[5]), answer, fault);
        still.due("muds" + told, x -> x.muds(a[0], a[1], a[2], a[3], a[4], a[5]), answer, fault);
    }

    /** With just that likelihood: by a push of ten parts each may be the one, by a twist from 6 on. */
    private static void setsOfEachShare(Check check) {
        PoleBehind x = Told.objectWith("p0g3dddd");
        int[] kindsByPush = {0, 0, 4, 0, 0, 0, 2, 1, 0, 0, 0};
        int[] kindsByTwist = {0, 0, 0, 0, 0, 0, 4, 0, 2, 1, 0};
        int[] mudsByPush = {0, 1 << 9, 1 << 8, 1 << 7, 1 << 6, 1 << 5, 1 << 4, 1 << 3, 1 << 2, 1 << 1, 1};
        int[] mudsByTwist = {0, 0, 0, 0, 0, 0, 3 << 8, 3 << 6, 3 << 4, 3 << 2, 3};
        for (int up = 0; up <= 10; up++) {
            check.due("kinds by a push, " + up + " of 10", Told.kinds(x, 0, up, PUSH), kindsByPush[up]);
            check.due("kinds by a twist, " + up + " of 10", Told.kinds(x, 0, up, TWIST), kindsByTwist[up]);
            check.due("muds by a push, " + up + " of 10", Told.muds(x, 0, up, PUSH), mudsByPush[up]);
            check.due("muds by a twist, " + up + " of 10", Told.muds(x, 0, up, TWIST), mudsByTwist[up]);
        }
        for (int up : new int[] {11, 70, 100, 700000000, MOST_PARTS}) {
            check.due("kinds by a push, " + up + " of 10", Told.kinds(x, 0, up, PUSH), 0);
            check.due("muds by a push, " + up + " of 10", Told.muds(x, 0, up, PUSH), 0);
        }
    }

    /** Parts of 10 to the n-th, for plans of none, of one, of as many as there may be, and of one more. */
    private static void setsOfPlansOfEachLength(Check check) {
        int nines = 1;
        int tens = 1;
        for (int n = 0; n <= 9; n++) {
            PoleBehind x = Told.objectWith("p1" + "g2".repeat(16));
            int[] acts = new int[n];
            Arrays.fill(acts, TWIST);
            check.due("kinds by " + n + " twists", Told.kinds(x, 0, nines, acts), n == 0 ? ALL_KINDS : 3);
            check.due("muds by " + n + " twists", Told.muds(x, 0, nines, acts), n == 0 ? ALL_MUDS : 12);
            check.due("kinds by " + n + " twists, of a clay one", Told.kinds(x, 0, nines / 9 * 7, acts), n == 0 ? 0 : 4);
            Arrays.fill(acts, TRAIL);
            check.due("kinds by " + n + " trails", Told.kinds(x, 0, tens, acts), ALL_KINDS);
            check.due("muds by " + n + " trails", Told.muds(x, 0, tens, acts), ALL_MUDS);
            check.due("muds by " + n + " trails, of no parts", Told.muds(x, 0, 0, acts), 0);
            check.due("muds by " + n + " trails, one part less", Told.muds(x, 0, tens - 1, acts), 0);
            nines *= 9;
            tens *= n < 9 ? 10 : 1;
        }
        PoleBehind x = Told.objectWith("p1" + "g2".repeat(16));
        int[] ten = new int[10];
        Arrays.fill(ten, TRAIL);
        check.due("kinds by ten trails", Told.kinds(x, 0, MOST_PARTS, ten), OUTSIDE);
        check.due("muds by ten trails", Told.muds(x, 0, MOST_PARTS, ten), OUTSIDE);
    }

    /** 9 at most is held: several kinds, several muds hold it. */
    private static void setsWhereTheMostIsHeld(Check check) {
        String[] cells = {"g8", "g9", "m8", "c3", "c4"};
        int[] kinds = {6, 7, 6, 0, 4};
        int[] muds = {1 << 9, 1 << 9, 3 << 8, 63 << 4, 63 << 4};
        for (int k = 0; k < cells.length; k++) {
            PoleBehind x = Told.objectWith("p0" + cells[k] + "d");
            check.due("kinds of " + cells[k] + ", 1 of 10", Told.kinds(x, 0, 1, PUSH), kinds[k]);
            check.due("muds of " + cells[k] + ", 1 of 10", Told.muds(x, 0, 1, PUSH), muds[k]);
        }
    }

    /** DEEP: as it is. A cell in which the pole is not used may be of all kinds, or of none. */
    private static void setsOfDeepAndUnusedCells(Check check) {
        PoleBehind x = Told.objectWith("p1dg3m2d");
        for (int c = 0; c < 4; c++) {
            boolean isPoled = c == 1;
            check.due("kinds of " + c, Told.kinds(x, c, 700, PADDLE, PUSH, TRAIL), -102);
            check.due("kinds of " + c, Told.kinds(x, c, 70, PADDLE, PUSH), isPoled ? 1 : ALL_KINDS);
            check.due("muds of " + c, Told.muds(x, c, 70, PADDLE, PUSH), isPoled ? 8 : ALL_MUDS);
            check.due("kinds of " + c + ", by another share", Told.kinds(x, c, 71, PADDLE, PUSH), 0);
            check.due("muds of " + c + ", by another share", Told.muds(x, c, 71, PADDLE, PUSH), 0);
        }
        PoleBehind own = Told.objectWith("p0c1c1c1");
        Told.kinds(own, 0, 6, PUSH);
        Told.muds(own, 0, 6, PUSH);
        check.due("the kind stays", own.ofCell(0, 0), 2);
        check.due("the mud stays", own.ofCell(0, 1), 1);
        check.due("what it holds stays", own.ofCell(0, 2), 4);
    }

    private static void setsOfAFirstWrong(Check check) {
        for (int place = 0; place < 9; place++) {
            PoleBehind x = Told.objectWith("p0dd");
            int[] acts = new int[9];
            Arrays.fill(acts, TRAIL);
            acts[place] = PUSH;
            check.due("kinds, wrong at " + place, Told.kinds(x, 0, MOST_PARTS, acts), -100 - place);
            check.due("fault()", x.fault(), 0);
            check.due("muds, wrong at " + place, Told.muds(x, 0, MOST_PARTS, acts), -100 - place);
            acts[8] = 4;
            check.due("kinds, no act ahead of a first wrong", Told.kinds(x, 0, MOST_PARTS, acts), OUTSIDE);
            check.due("muds, no act ahead of a first wrong", Told.muds(x, 0, MOST_PARTS, acts), OUTSIDE);
            acts[8] = -1;
            check.due("kinds, no act ahead of a first wrong", Told.kinds(x, 0, MOST_PARTS, acts), OUTSIDE);
            check.due("fault()", x.fault(), 0);
        }
    }
}
