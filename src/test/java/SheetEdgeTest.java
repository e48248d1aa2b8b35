import java.util.Arrays;

/** Boundary cases of promises 18 to 22: sheets and their rows. */
public final class SheetEdgeTest {
    private static final int UNKNOWN = -1, OUTSIDE = -2, NULL = -11, CAST = -12, INDEX = -13, SIZE = -14;
    private static final long LOST = Long.MIN_VALUE;

    public static void main(String[] args) {
        Check check = new Check("SheetEdgeTest");
        sheetInTheOrderTold(check);
        sheetOfEachLength(check);
        sheetIsAlwaysNew(check);
        loseInTheOrderTold(check);
        loseTakesOne(check);
        putInTheOrderTold(check);
        cellInTheOrderTold(check);
        eachPlaceOfEachRow(check);
        cutToEachLane(check);
        copyInTheOrderTold(check);
        copyFarOutside(check);
        copyOfEachStretch(check);
        copyWithinARow(check);
        copyIsNotCut(check);
        longestCopy(check);
        check.end();
    }

    /** UNKNOWN; OUTSIDE: lane, n above 60; SIZE. */
    private static void sheetInTheOrderTold(Check check) {
        for (World world : World.values()) {
            Still still = new Still(check, world);
            for (int k : Numbers.about(0, 3)) {
                for (int lane : Numbers.edges(0, 2)) {
                    for (int n : Numbers.about(0, 60)) {
                        oneSheet(still, k, lane, n);
                    }
                }
            }
            for (int lane : Numbers.outside(0, 2)) {
                oneSheet(still, 3, lane, 1);
            }
            still.end();
        }
    }

    private static void oneSheet(Still still, int k, int lane, int n) {
        Due due = new Due().wrong(k < 0 || k > 3, UNKNOWN).wrong(lane < 0 || lane > 2 || n > 60, OUTSIDE).wrong(n < 0, SIZE);
        if (due.isWrong()) {
            still.due("sheet(" + k + ", " + lane + ", " + n + ")", x -> x.sheet(k, lane, n), due.or(0), due.fault());
        }
    }

    /** A row of 0 .. 60 numbers (0 at first) of a LANE. */
    private static void sheetOfEachLength(Check check) {
        for (int n = 0; n <= 60; n++) {
            PoleBehind x = new PoleBehind();
            int k = n % 4;
            int lane = n % 3;
            check.due("sheet of " + n, x.sheet(k, lane, n), 1);
            check.due("fault()", x.fault(), 0);
            for (int i = 0; i < n; i++) {
                check.due("cell " + i + " of " + n, x.cell(k, i, lane), 0);
                check.due("fault()", x.fault(), 0);
            }
            check.due("cell " + n + " of " + n, x.cell(k, n, lane), LOST);
            check.due("fault()", x.fault(), 3);
            check.due("put beyond " + n, x.put(k, n, 1), INDEX);
            check.due("put into the last of " + n, x.put(k, n - 1, 1), n == 0 ? INDEX : 1);
        }
    }

    private static void sheetIsAlwaysNew(Check check) {
        PoleBehind x = World.FULL.make();
        for (int lane = 0; lane <= 2; lane++) {
            check.due("sheet(2, " + lane + ", 3)", x.sheet(2, lane, 3), 1);
            for (int i = 0; i < 3; i++) {
                check.due("cell(2, " + i + ", " + lane + ")", x.cell(2, i, lane), 0);
                x.put(2, i, 77);
            }
            check.due("shorter than before", x.cell(2, 3, lane), LOST);
            check.due("of another lane", x.cell(2, 0, (lane + 1) % 3), LOST);
            check.due("fault()", x.fault(), 2);
        }
        check.due("sheet(2, 2, 60), longer again", x.sheet(2, 2, 60), 1);
        for (int i = 0; i < 60; i++) {
            check.due("cell(2, " + i + ", 2)", x.cell(2, i, 2), 0);
        }
        check.due("the other sheets are as they were", x.cell(0, 0, 0), 'p');
        check.due("the river is as it was", x.many(0), 16);
        check.due("the readings are as they were", x.many(3), 8);
    }

    private static void loseInTheOrderTold(Check check) {
        for (World world : World.values()) {
            Still still = new Still(check, world);
            for (int k : Numbers.about(0, 3)) {
                if (!world.hasSheet(k) || world.hasNothing(k)) {
                    still.due("lose(" + k + ")", x -> x.lose(k), world.hasSheet(k) ? 0 : UNKNOWN, Still.NAMES_NONE);
                }
            }
            still.end();
        }
    }

    /** A row of none is a row, and to lose it is to lose something. */
    private static void loseTakesOne(Check check) {
        for (int k = 0; k < 4; k++) {
            PoleBehind x = World.FULL.make();
            check.due("lose(" + k + ")", x.lose(k), 1);
            check.due("lose(" + k + "), again", x.lose(k), 0);
            for (int other = 0; other < 4; other++) {
                check.due("put(" + other + ", -1, 0)", x.put(other, -1, 0), other == k ? NULL : INDEX);
            }
            check.due("the river is as it was", x.many(0), 16);
            check.due("a new row", x.sheet(k, 1, 2), 1);
            check.due("its last number", x.cell(k, 1, 1), 0);
        }
    }

    /** UNKNOWN; NULL; INDEX. */
    private static void putInTheOrderTold(Check check) {
        for (World world : World.values()) {
            Still still = new Still(check, world);
            for (int k : Numbers.about(0, 3)) {
                for (int i : Numbers.outside(0, Math.max(0, world.length(k)) - 1)) {
                    for (int v : new int[] {1, Integer.MAX_VALUE}) {
                        Due due = new Due().wrong(!world.hasSheet(k), UNKNOWN).wrong(world.hasNothing(k), NULL).wrong(true, INDEX);
                        still.due("put(" + k + ", " + i + ", " + v + ")", x -> x.put(k, i, v), due.or(0), due.fault());
                    }
                }
            }
            for (int k : Numbers.outside(0, 3)) {
                still.due("put(" + k + ", 0, 1)", x -> x.put(k, 0, 1), UNKNOWN, 0);
            }
            still.end();
        }
    }

    /** LOST: UNKNOWN, OUTSIDE: lane; FAULTS CAST (nothing is no CAST), NULL, INDEX. */
    private static void cellInTheOrderTold(Check check) {
        for (World world : World.values()) {
            Still still = new Still(check, world);
            for (int k : Numbers.about(0, 3)) {
                for (int lane : Numbers.about(0, 2)) {
                    for (int i : Numbers.edges(0, Math.max(1, world.length(k)) - 1)) {
                        boolean isThere = i >= 0 && i < world.length(k);
                        Due due = new Due().wrong(!world.hasSheet(k), UNKNOWN).wrong(lane < 0 || lane > 2, OUTSIDE)
                            .wrong(!world.hasNothing(k) && lane != world.lane(k), CAST).wrong(world.hasNothing(k), NULL)
                            .wrong(!isThere, INDEX);
                        int[] firstNumbers = {'p', 0, Told.TRAIL, 0};
                        long right = k == World.TEXT && i > 0 ? lastOfTheText(world) : world.hasSheet(k) ? firstNumbers[k] : 0;
                        still.due("cell(" + k + ", " + i + ", " + lane + ")", x -> x.cell(k, i, lane), due.lostOr(right), due.fault());
                    }
                }
            }
            still.end();
        }
    }

    private static int lastOfTheText(World world) {
        return world == World.FULL ? 0 : world.text().charAt(world.text().length() - 1);
    }

    private static void eachPlaceOfEachRow(Check check) {
        for (int length : new int[] {1, 2, 59, 60}) {
            PoleBehind x = new PoleBehind();
            x.sheet(3, 1, length);
            for (int i = 0; i < length; i++) {
                check.due("put " + i + " of " + length, x.put(3, i, i - 30), 1);
            }
            for (int i : Numbers.outside(0, length - 1)) {
                check.due("put " + i + " of " + length, x.put(3, i, 99), INDEX);
                check.due("cell " + i + " of " + length, x.cell(3, i, 1), LOST);
            }
            for (int i = 0; i < length; i++) {
                check.due("cell " + i + " of " + length, x.cell(3, i, 1), i - 30);
            }
        }
    }

    /** What comes to a cell of it is cut to its LANE (with its sign). */
    private static void cutToEachLane(Check check) {
        long[] span = {1L << 8, 1L << 16, 1L << 32};
        for (int lane = 0; lane <= 2; lane++) {
            for (int bit = 0; bit < 32; bit++) {
                PoleBehind x = new PoleBehind();
                x.sheet(0, lane, 60);
                int[] values = {1 << bit, (1 << bit) - 1, (1 << bit) + 1, -(1 << bit), -(1 << bit) - 1, -(1 << bit) + 1, ~0 << bit, 0x5a5a5a5a << bit};
                for (int i = 0; i < values.length; i++) {
                    long due = Math.floorMod(values[i] + span[lane] / 2, span[lane]) - span[lane] / 2;
                    check.due("put(0, " + i + ", " + values[i] + ")", x.put(0, i, values[i]), 1);
                    check.due(values[i] + " in lane " + lane, x.cell(0, i, lane), due);
                    check.due("the cell behind it", x.cell(0, i + 1, lane), 0);
                }
            }
        }
    }

    /** UNKNOWN; FAULTS NULL (the first, the other), CAST (unlike LANES), INDEX: i, j, n below 0 or beyond. */
    private static void copyInTheOrderTold(Check check) {
        for (World world : World.values()) {
            Still still = new Still(check, world);
            for (int k = -1; k <= 4; k++) {
                for (int other = -1; other <= 4; other++) {
                    for (int i : places(world, k)) {
                        for (int j : places(world, other)) {
                            for (int n : new int[] {-1, 0, 1, 5, 60, 61, Integer.MIN_VALUE, Integer.MAX_VALUE}) {
                                oneCopy(still, world, new int[] {k, i, other, j, n});
                            }
                        }
                    }
                }
            }
            still.end();
        }
    }

    private static int[] places(World world, int k) {
        int length = Math.max(0, world.length(k));
        return new int[] {-1, 0, length, length + 1, Integer.MIN_VALUE, Integer.MAX_VALUE};
    }

    private static void oneCopy(Still still, World world, int[] a) {
        boolean isBeyond = a[1] < 0 || a[3] < 0 || a[4] < 0 || (long) a[1] + a[4] > world.length(a[0])
            || (long) a[3] + a[4] > world.length(a[2]);
        Due due = new Due().wrong(!world.hasSheet(a[0]) || !world.hasSheet(a[2]), UNKNOWN)
            .wrong(world.hasNothing(a[0]) || world.hasNothing(a[2]), NULL)
            .wrong(world.lane(a[0]) != world.lane(a[2]), CAST).wrong(isBeyond, INDEX);
        // From the same place to the same place, or none at all: nothing changes then, either.
        still.due("copy of " + Arrays.toString(a), x -> x.copy(a[0], a[1], a[2], a[3], a[4]), due.or(a[4]), due.fault());
    }

    private static void copyFarOutside(Check check) {
        Still still = new Still(check, World.FULL);
        for (int k : Numbers.outside(0, 3)) {
            copied(still, new int[] {k, 0, 0, 0, 1}, UNKNOWN);
            copied(still, new int[] {0, 0, k, 0, 1}, UNKNOWN);
        }
        for (int i : Numbers.outside(0, 60)) {
            for (int n : new int[] {0, 1}) {
                copied(still, new int[] {2, i, 2, 0, n}, INDEX);
                copied(still, new int[] {2, 0, 2, i, n}, INDEX);
            }
            copied(still, new int[] {2, 0, 2, 0, i}, INDEX);
        }
        // The place and the length pass the greatest int together, in the one row or in the other.
        for (int i = 1; i <= 60; i++) {
            copied(still, new int[] {2, i, 2, 0, Integer.MAX_VALUE}, INDEX);
            copied(still, new int[] {2, 0, 2, i, Integer.MAX_VALUE}, INDEX);
            copied(still, new int[] {2, i, 2, i, Integer.MAX_VALUE - i + 1}, INDEX);
            copied(still, new int[] {2, Integer.MAX_VALUE - i + 1, 2, 0, i}, INDEX);
            copied(still, new int[] {2, 0, 2, Integer.MAX_VALUE - i + 1, i}, INDEX);
        }
        still.end();
    }

    private static void copied(Still still, int[] a, int answer) {
        still.due("copy of " + Arrays.toString(a), x -> x.copy(a[0], a[1], a[2], a[3], a[4]), answer, Math.max(0, -10 - answer));
    }

    private static PoleBehind withRows(int lane, int... lengths) {
        PoleBehind x = new PoleBehind();
        for (int k = 0; k < lengths.length; k++) {
            x.sheet(k, lane, lengths[k]);
            for (int i = 0; i < lengths[k]; i++) {
                x.put(k, i, 10 * (k + 1) + i);
            }
        }
        return x;
    }

    /** Each stretch of a row of three, to each place of a row of two, in each lane. */
    private static void copyOfEachStretch(Check check) {
        for (int i = -1; i <= 4; i++) {
            for (int j = -1; j <= 3; j++) {
                for (int n = -1; n <= 4; n++) {
                    int lane = (i + j + n + 3) % 3;
                    PoleBehind x = withRows(lane, 3, 2);
                    boolean isThere = i >= 0 && j >= 0 && n >= 0 && i + n <= 3 && j + n <= 2;
                    String told = "copy(0, " + i + ", 1, " + j + ", " + n + ")";
                    check.due(told, x.copy(0, i, 1, j, n), isThere ? n : INDEX);
                    check.due("fault() behind " + told, x.fault(), isThere ? 0 : 3);
                    for (int p = 0; p < 3; p++) {
                        check.due("from, behind " + told, x.cell(0, p, lane), 10 + p);
                    }
                    for (int p = 0; p < 2; p++) {
                        boolean isNew = isThere && p >= j && p < j + n;
                        check.due("to, behind " + told, x.cell(1, p, lane), isNew ? 10 + p - j + i : 20 + p);
                    }
                }
            }
        }
    }

    /** Perhaps the same; as they were: what is written over is copied as it was ahead of the call. */
    private static void copyWithinARow(Check check) {
        for (int i = 0; i <= 5; i++) {
            for (int j = 0; j <= 5; j++) {
                for (int n = 0; n <= 6; n++) {
                    PoleBehind x = withRows(Told.BYTES, 5);
                    boolean isThere = i + n <= 5 && j + n <= 5;
                    check.due("copy(0, " + i + ", 0, " + j + ", " + n + ")", x.copy(0, i, 0, j, n), isThere ? n : INDEX);
                    for (int p = 0; p < 5; p++) {
                        boolean isNew = isThere && p >= j && p < j + n;
                        check.due("cell " + p + " behind it", x.cell(0, p, 0), isNew ? 10 + p - j + i : 10 + p);
                    }
                }
            }
        }
    }

    private static void copyIsNotCut(Check check) {
        int[][] ends = {{-128, 127}, {-32768, 32767}, {Integer.MIN_VALUE, Integer.MAX_VALUE}};
        for (int lane = 0; lane <= 2; lane++) {
            PoleBehind x = new PoleBehind();
            x.sheet(0, lane, 2);
            x.sheet(3, lane, 2);
            x.put(0, 0, ends[lane][0]);
            x.put(0, 1, ends[lane][1]);
            check.due("copy(0, 0, 3, 0, 2)", x.copy(0, 0, 3, 0, 2), 2);
            check.due("the least of lane " + lane, x.cell(3, 0, lane), ends[lane][0]);
            check.due("the greatest of lane " + lane, x.cell(3, 1, lane), ends[lane][1]);
        }
    }

    private static void longestCopy(Check check) {
        PoleBehind x = withRows(Told.SHORTS, 60, 60);
        check.due("copy(0, 0, 1, 0, 61)", x.copy(0, 0, 1, 0, 61), INDEX);
        check.due("copy(0, 0, 1, 0, 60)", x.copy(0, 0, 1, 0, 60), 60);
        for (int i = 0; i < 60; i++) {
            check.due("cell(1, " + i + ", 1)", x.cell(1, i, 1), 10 + i);
        }
        check.due("copy(0, 60, 1, 60, 0)", x.copy(0, 60, 1, 60, 0), 0);
        check.due("copy(0, 60, 1, 60, 1)", x.copy(0, 60, 1, 60, 1), INDEX);
    }
}
