import java.util.Arrays;
import java.util.stream.LongStream;

/** Objects made alike each time, and all that calls can tell of one, to see that nothing changed. */
enum World {
    /** Nothing at all. */
    NEW,
    /** Rows, but no river. */
    ROWS,
    /** The same rows, a river, some readings. */
    RIVER,
    /** As many cells, readings and numbers as there may be, and a row of none. */
    FULL;

    /** What is told of an object is told in as many parts, as it is used for 512 calls at most. */
    static final int SIDES = 3;

    /** The sheets that hold a text, pushes and trails; the last one has nothing, or a row of none. */
    static final int TEXT = 0, PUSHES = 1, TRAILS = 2, LAST = 3;
    static final int NOTHING = -1;

    private static final String TEXT_OF_RIVER = "p2g3m2c9^dg4m1^g0g2c1g5";
    private static final String TEXT_OF_FULL = "p0g1m2c3dg4^m5c6g7dm8^c9g0m1c2g3m4";

    private final long[][] looks = new long[SIDES][];

    int cells() {
        return this == RIVER ? 10 : this == FULL ? 16 : 0;
    }

    int readings() {
        return this == RIVER ? 3 : this == FULL ? 8 : 0;
    }

    String text() {
        return this == FULL ? TEXT_OF_FULL : TEXT_OF_RIVER;
    }

    boolean hasSheet(int k) {
        return k >= 0 && k < 4;
    }

    /** How many numbers a sheet has, or NOTHING. */
    int length(int k) {
        if (!hasSheet(k) || this == NEW) {
            return NOTHING;
        }
        int[] lengths = this == FULL ? new int[] {60, 60, 60, 0} : new int[] {text().length(), 4, 19, NOTHING};
        return lengths[k];
    }

    boolean hasNothing(int k) {
        return hasSheet(k) && length(k) == NOTHING;
    }

    int lane(int k) {
        return hasSheet(k) ? new int[] {Told.BYTES, Told.SHORTS, Told.INTS, Told.BYTES}[k] : NOTHING;
    }

    PoleBehind make() {
        PoleBehind x = new PoleBehind();
        for (int k = 0; k < 4; k++) {
            if (!hasNothing(k)) {
                x.sheet(k, lane(k), length(k));
            }
        }
        if (this != NEW) {
            fillRows(x);
        }
        if (cells() > 0) {
            x.river(TEXT, Told.BYTES, 0, text().length());
            fillRiver(x);
        }
        return x;
    }

    private void fillRows(PoleBehind x) {
        for (int i = 0; i < text().length(); i++) {
            x.put(TEXT, i, text().charAt(i));
        }
        x.put(TRAILS, 0, Told.TRAIL);
        for (int i = 1; i < length(TRAILS); i *= 2) {
            x.copy(TRAILS, 0, TRAILS, i, Math.min(i, length(TRAILS) - i));
        }
    }

    private void fillRiver(PoleBehind x) {
        int[][] all = this == FULL ? new int[][] {{1, 1}, {2, 2}, {2, 2}, {3, 3}, {5, 5}, {7, 7}, {12, 15}, {8, 0}}
            : new int[][] {{1, 1}, {2, 2}, {3, 4}};
        for (int[] each : all) {
            x.reading(each[0], each[1]);
        }
        if (this == RIVER) {
            x.pace(1);
            x.bridge(5, false);
            x.bridge(7, true);
        }
        x.tell(2);
        x.sound(0);
    }

    /** Whether one part of what is told of an object is as at first. */
    boolean isAsMade(PoleBehind x, int side) {
        if (looks[side] == null) {
            looks[side] = look(make(), side);
        }
        return Arrays.equals(looks[side], look(x, side));
    }

    private long[] look(PoleBehind x, int side) {
        LongStream.Builder seen = LongStream.builder();
        switch (side) {
            case 0 -> lookAtRiver(x, seen);
            case 1 -> lookAtSheets(x, seen);
            default -> lookAtReadings(x, seen);
        }
        return seen.build().toArray();
    }

    private void lookAtRiver(PoleBehind x, LongStream.Builder seen) {
        seen.add(x.soonest()).add(x.trace());
        for (int what = 0; what < 4; what++) {
            seen.add(x.many(what));
        }
        for (int n = 1; n <= 12; n++) {
            seen.add(x.surest(n, -1)).add(x.surest(12, n - 1)).add(x.sure(n, 0)).add(x.sure(n, 1));
        }
        for (int c = 0; c < 16; c++) {
            for (int what = 0; what < 5; what++) {
                seen.add(x.ofCell(c, what));
            }
            seen.add(x.cost(c)).add(x.as(c, 1)).add(x.as(c, 2)).add(x.tell(c)).add(x.sound(c));
        }
        seen.add(x.trace());
    }

    private void lookAtSheets(PoleBehind x, LongStream.Builder seen) {
        for (int k = 0; k < 4; k++) {
            for (int lane = 0; lane < 3; lane++) {
                seen.add(x.cell(k, 0, lane)).add(x.fault());
            }
            for (int i = 0; i <= 60; i++) {
                seen.add(x.cell(k, i, lane(k)));
            }
        }
    }

    private void lookAtReadings(PoleBehind x, LongStream.Builder seen) {
        for (int left = 9; left > 0; left--) {
            for (int n = 0; n < 8; n++) {
                seen.add(x.ways(n, -1)).add(x.ways(7, n - 1));
            }
            seen.add(x.back(1));
        }
    }
}
