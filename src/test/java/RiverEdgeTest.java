/** Boundary cases of promises 1 to 5, and 28, sentence by sentence. */
public final class RiverEdgeTest {
    private static final int UNKNOWN = -1, OUTSIDE = -2, STATE = -3, NULL = -11, CAST = -12, INDEX = -13, SIZE = -14;

    public static void main(String[] args) {
        Check check = new Check("RiverEdgeTest");
        eachCodeAtEachPlace(check);
        codesOfWiderLanes(check);
        ofWrongCodesTheFirst(check);
        fewestAndMostCells(check);
        textsThatEndTooSoon(check);
        textInALongSheet(check);
        riverInTheOrderTold(check);
        riverFarOutside(check);
        riverMakesAllAnew(check);
        riverTakesPlaceOfAFullOne(check);
        riverBehindRivers(check);
        holdsNineAtMost(check);
        deepCells(check);
        ofCell(check);
        pace(check);
        bridge(check);
        many(check);
        check.end();
    }

    private static final String LETTERS = "dgmc", DIGITS = "0123456789";

    /** What a text may begin with, and the codes with which one goes on behind it. */
    private static final String[][] GOES_ON = {
        {"", "p"}, {"p", "0123"}, {"p0", LETTERS}, {"p3", LETTERS},
        {"p1d", LETTERS + "^"}, {"p1d^", LETTERS}, {"p1g", DIGITS}, {"p1m", DIGITS}, {"p1c", DIGITS},
        {"p1g0", LETTERS + "^"}, {"p1m9^", LETTERS}, {"p1dd", LETTERS + "^"}, {"p1dd^", LETTERS}, {"p1d^c", DIGITS},
        {"p1" + "d".repeat(15), LETTERS + "^"}, {"p1" + "d".repeat(15) + "^", LETTERS}, {"p1" + "d".repeat(15) + "m", DIGITS},
        {"p1" + "d".repeat(16), "^"}, {"p1" + "d".repeat(16) + "^", ""}, {"p1" + "g5".repeat(16), "^"}, {"p1" + "c9^".repeat(16), ""}};

    /** FIRST FAULT: the first code with which no TEXT goes on; else how many there are, or how many CELLS. */
    private static void eachCodeAtEachPlace(Check check) {
        for (String[] row : GOES_ON) {
            for (int from = Byte.MIN_VALUE; from <= Byte.MAX_VALUE; from += 64) {
                PoleBehind x = withRoomBehind(row[0], Told.BYTES);
                for (int code = from; code < from + 64; code++) {
                    boolean goesOn = code > 0 && row[1].indexOf(code) >= 0;
                    check.due("'" + row[0] + "' and the code " + code, riverAndACode(x, row[0], Told.BYTES, code),
                        goesOn ? takenOrTooShort(row[0] + (char) code) : -100 - row[0].length());
                }
            }
        }
    }

    /** A code that is 256 or 65536 off is another one, but in a lane that cuts it. */
    private static void codesOfWiderLanes(Check check) {
        int[][] off = {{256, 1 << 15, -256, -128}, {256, -256, 32768, 3 * 256}, {256, 65536, -65536, 1 << 24, Integer.MIN_VALUE, -256}};
        for (String[] row : GOES_ON) {
            for (int lane = Told.SHORTS; lane <= Told.INTS; lane++) {
                PoleBehind x = withRoomBehind(row[0], lane);
                for (int k = 0; k < row[1].length(); k++) {
                    for (int by : off[lane]) {
                        check.due("'" + row[0] + "' and a code " + by + " off", riverAndACode(x, row[0], lane, row[1].charAt(k) + by),
                            -100 - row[0].length());
                    }
                    check.due("'" + row[0] + "' and " + row[1].charAt(k), riverAndACode(x, row[0], lane, row[1].charAt(k)),
                        takenOrTooShort(row[0] + row[1].charAt(k)));
                }
            }
        }
        PoleBehind bytes = withRoomBehind("p1d", Told.BYTES);
        check.due("a code 256 off, cut to a byte", riverAndACode(bytes, "p1d", Told.BYTES, 'd' + 256), 2);
        PoleBehind shorts = withRoomBehind("p1d", Told.SHORTS);
        check.due("a code 65536 off, cut to a short", riverAndACode(shorts, "p1d", Told.SHORTS, 'd' - 65536), 2);
    }

    private static PoleBehind withRoomBehind(String text, int lane) {
        PoleBehind x = new PoleBehind();
        Told.text(x, 0, lane, text + "?");
        return x;
    }

    private static int riverAndACode(PoleBehind x, String text, int lane, int code) {
        x.put(0, text.length(), code);
        return x.river(0, lane, 0, text.length() + 1);
    }

    /** Of a text that is right so far: how many cells, or that it ends too soon. */
    private static int takenOrTooShort(String text) {
        int cells = text.replaceAll("[^dgmc]", "").length();
        boolean isWhole = cells >= 2 && !text.matches(".*[gmc]");
        return isWhole ? cells : -100 - text.length();
    }

    private static void ofWrongCodesTheFirst(Check check) {
        String[] texts = {"xxxx", "px", "pxxx", "p1xx", "p1gx", "p1gxx", "p1dxdx", "p1dd^^^", "p9g", "p0g1m2c3x^^", "p0ddp0dd"};
        int[] places = {0, 1, 1, 2, 3, 3, 3, 5, 1, 8, 4};
        for (int k = 0; k < texts.length; k++) {
            check.due("river of " + texts[k], Told.river(new PoleBehind(), texts[k]), -100 - places[k]);
        }
    }

    private static void fewestAndMostCells(Check check) {
        for (String cell : new String[] {"d", "g0", "c9^"}) {
            for (int cells = 0; cells <= 17; cells++) {
                PoleBehind x = new PoleBehind();
                // The letter of a seventeenth cell is the first fault; of none and one the text ends too soon.
                int due = cells < 2 ? -102 - cells * cell.length() : cells > 16 ? -102 - 16 * cell.length() : cells;
                check.due(cells + " times " + cell, Told.river(x, "p0" + cell.repeat(cells)), due);
                check.due("many(0) behind " + cells + " times " + cell, x.many(0), Math.max(due, 0));
            }
        }
    }

    private static void textsThatEndTooSoon(Check check) {
        String text = "p3c9^m0^d^";
        int[] due = {-100, -101, -102, -103, -104, -105, -106, 2, 2, 3, 3};
        PoleBehind x = new PoleBehind();
        Told.text(x, 2, Told.SHORTS, text);
        for (int n = 0; n < due.length; n++) {
            check.due(n + " codes of " + text, x.river(2, Told.SHORTS, 0, n), due[n]);
            check.due("fault() behind them", x.fault(), 0);
        }
        check.due("as many as there are, and one more", x.river(2, Told.SHORTS, 0, 11), INDEX);
        PoleBehind none = new PoleBehind();
        none.sheet(0, 0, 0);
        check.due("none of none", none.river(0, 0, 0, 0), -100);
        check.due("one of none", none.river(0, 0, 0, 1), INDEX);
        check.due("none from 1 on of none", none.river(0, 0, 1, 0), INDEX);
    }

    /** The longest text ends just where the longest sheet does. */
    private static void textInALongSheet(Check check) {
        PoleBehind x = new PoleBehind();
        String longest = "p2" + "m7^".repeat(16);
        Told.text(x, 3, Told.INTS, "xxxxxxxxxx" + longest);
        check.due("river(3, 2, 10, 50)", x.river(3, 2, 10, 50), 16);
        check.due("river(3, 2, 10, 49)", x.river(3, 2, 10, 49), 16);
        check.due("ofCell(15, 4), the last code left out", x.ofCell(15, 4), 0);
        check.due("river(3, 2, 10, 48)", x.river(3, 2, 10, 48), -148);
        check.due("river(3, 2, 10, 51)", x.river(3, 2, 10, 51), INDEX);
        check.due("river(3, 2, 11, 50)", x.river(3, 2, 11, 50), INDEX);
        check.due("river(3, 2, 9, 51)", x.river(3, 2, 9, 51), -100);
        check.due("river(3, 2, 60, 0)", x.river(3, 2, 60, 0), -100);
        check.due("river(3, 2, 61, 0)", x.river(3, 2, 61, 0), INDEX);
        Told.text(x, 3, Told.INTS, longest + "^^^^^^^^^^");
        check.due("river(3, 2, 0, 60)", x.river(3, 2, 0, 60), -150);
        check.due("river(3, 2, 0, 50)", x.river(3, 2, 0, 50), 16);
    }

    /** UNKNOWN; OUTSIDE: lane; CAST (nothing is no CAST); NULL; SIZE: n below 0; INDEX; -100 less it. */
    private static void riverInTheOrderTold(Check check) {
        for (World world : World.values()) {
            Still still = new Still(check, world);
            for (int sheet = -1; sheet <= 4; sheet++) {
                for (int lane = -1; lane <= 3; lane++) {
                    int length = Math.max(0, world.length(sheet));
                    for (int i : new int[] {-1, 0, 1, length, length + 1, Integer.MIN_VALUE, Integer.MAX_VALUE}) {
                        for (int n : new int[] {-1, 0, 1, length - 1, length, length + 1, Integer.MIN_VALUE, Integer.MAX_VALUE}) {
                            oneRiver(still, world, new int[] {sheet, lane, i, n});
                        }
                    }
                }
            }
            still.end();
        }
    }

    private static void oneRiver(Still still, World world, int[] a) {
        int sheet = a[0];
        int lane = a[1];
        int i = a[2];
        int n = a[3];
        Due due = new Due().wrong(!world.hasSheet(sheet), UNKNOWN).wrong(lane < 0 || lane > 2, OUTSIDE)
            .wrong(!world.hasNothing(sheet) && lane != world.lane(sheet), CAST).wrong(world.hasNothing(sheet), NULL)
            .wrong(n < 0, SIZE).wrong(i < 0 || (long) i + Math.max(n, 0) > world.length(sheet), INDEX);
        boolean isText = sheet == World.TEXT && i == 0;
        boolean isTaken = isText && n == world.text().length();
        if (due.isWrong() || !isTaken) {
            // In the longest sheet numbers that are no codes follow the text.
            int firstFault = isText ? Math.min(n, world.text().length()) : 0;
            still.due("river(" + sheet + ", " + lane + ", " + i + ", " + n + ")", x -> x.river(sheet, lane, i, n),
                due.or(-100 - firstFault), due.fault());
        }
    }

    private static void riverFarOutside(Check check) {
        Still still = new Still(check, World.RIVER);
        int all = World.RIVER.text().length();
        for (int k : Numbers.outside(0, 3)) {
            still.due("river(" + k + ", 0, 0, " + all + ")", x -> x.river(k, 0, 0, all), UNKNOWN, 0);
        }
        for (int lane : Numbers.outside(0, 2)) {
            still.due("river(0, " + lane + ", 0, " + all + ")", x -> x.river(0, lane, 0, all), OUTSIDE, 0);
        }
        for (int i : Numbers.outside(0, all)) {
            still.due("river(0, 0, " + i + ", 0)", x -> x.river(0, 0, i, 0), INDEX, 3);
            still.due("river(0, 0, 0, " + i + ")", x -> x.river(0, 0, 0, i), i < 0 ? SIZE : INDEX, i < 0 ? 4 : 3);
            // The sum of the two passes the greatest int, or comes back to 0.
            still.due("river(0, 0, " + i + ", the most)", x -> x.river(0, 0, i, Integer.MAX_VALUE), INDEX, 3);
        }
        still.due("river(0, 0, 0, the most)", x -> x.river(0, 0, 0, Integer.MAX_VALUE), INDEX, 3);
        for (int i = 1; i <= all; i++) {
            int from = i;
            still.due("river(0, 0, " + i + ", the most)", x -> x.river(0, 0, from, Integer.MAX_VALUE), INDEX, 3);
            still.due("river(0, 0, " + i + ", too many)", x -> x.river(0, 0, from, Integer.MAX_VALUE - from + 1), INDEX, 3);
        }
        still.end();
    }

    /** A TEXT that is taken makes all anew, but for SHEETS and TRACE: no READINGS. */
    private static void riverMakesAllAnew(Check check) {
        PoleBehind x = World.FULL.make();
        int trace = x.trace();
        Told.text(x, 1, Told.SHORTS, "p3m7^d");
        check.due("river", x.river(1, 1, 0, 6), 2);
        check.due("trace()", x.trace(), trace);
        int[] many = {2, 3, 1, 0};
        int[][] cells = {{1, 7, 8, 0, 1}, {0, 0, 0, 1, 0}};
        for (int what = 0; what < 4; what++) {
            check.due("many(" + what + ")", x.many(what), many[what]);
        }
        for (int c = 0; c < 2; c++) {
            for (int what = 0; what < 5; what++) {
                check.due("ofCell(" + c + ", " + what + ")", x.ofCell(c, what), cells[c][what]);
            }
        }
        check.due("ofCell(2, 0)", x.ofCell(2, 0), UNKNOWN);
        for (int i = 0; i < 60; i++) {
            check.due("cell(2, " + i + ", 2)", x.cell(2, i, 2), Told.TRAIL);
        }
        check.due("a reading, the first again", x.reading(1, 0), 0);
    }

    private static void riverTakesPlaceOfAFullOne(Check check) {
        PoleBehind x = World.FULL.make();
        check.due("the same text again", x.river(World.TEXT, 0, 0, World.FULL.text().length()), 16);
        check.due("many(3), no readings", x.many(3), 0);
        check.due("back(1)", x.back(1), OUTSIDE);
        for (int k = 0; k < 8; k++) {
            check.due("reading(1, 0)", x.reading(1, 0), k);
        }
        check.due("fault()", x.fault(), 0);
    }

    /** That nothing is left of the river ahead, of the one ahead of that, or of a text that was not taken. */
    private static void riverBehindRivers(Check check) {
        PoleBehind x = new PoleBehind();
        for (int round = 0; round < 3; round++) {
            check.due("a river of clay", Told.river(x, "p3c9^c9^c9^"), 3);
            check.due("the surest on it", x.surest(12, -1), 2);
            check.due("its likelihood", x.sure(12, 1), 1);
            check.due("a text that ends too soon", Told.river(x, "p3m8^m8^m8^m"), -112);
            check.due("a river of deep ones", Told.river(x, "p3ddd"), 3);
            for (int c = 0; c < 3; c++) {
                int[] due = {0, 0, 0, 1, 0};
                for (int what = 0; what < 5; what++) {
                    check.due("ofCell(" + c + ", " + what + ")", x.ofCell(c, what), due[what]);
                }
            }
            check.due("many(2)", x.many(2), 0);
            check.due("the surest on it", x.surest(12, 0), Told.TRAIL);
            check.due("turns of it", x.surest(12, -1), 1);
            check.due("a river of no mud", Told.river(x, "p3g0g0g0"), 3);
            check.due("the surest on it", x.surest(12, 0), Told.PUSH);
            check.due("ofCell(2, 2)", x.ofCell(2, 2), 0);
        }
    }

    private static void holdsNineAtMost(Check check) {
        String[] cells = {"g8", "g9", "m7", "m8", "m9", "c3", "c4", "c5", "c9"};
        int[] due = {8, 9, 8, 9, 9, 8, 9, 9, 9};
        for (int k = 0; k < cells.length; k++) {
            check.due(cells[k] + " holds", Told.objectWith("p0d" + cells[k]).ofCell(1, 2), due[k]);
        }
        check.due("g0 holds", Told.objectWith("p0dg0").ofCell(1, 2), 0);
        check.due("m0 holds", Told.objectWith("p0dm0").ofCell(1, 2), 1);
        check.due("c0 holds", Told.objectWith("p0dc0").ofCell(1, 2), 2);
    }

    /** A DEEP one is of kind 0, its MUD and what it HOLDS are 0, a BRIDGE may be over it. */
    private static void deepCells(Check check) {
        PoleBehind x = Told.objectWith("p0dd^d");
        for (int c = 0; c < 3; c++) {
            int[] due = {0, 0, 0, 1, c == 1 ? 1 : 0};
            for (int what = 0; what < 5; what++) {
                check.due("ofCell(" + c + ", " + what + ") of a deep one", x.ofCell(c, what), due[what]);
            }
        }
    }

    private static void ofCell(Check check) {
        for (World world : World.values()) {
            Still still = new Still(check, world);
            for (int c : Numbers.about(0, 16)) {
                for (int what : Numbers.outside(0, 4)) {
                    still.due("ofCell(" + c + ", " + what + ")", x -> x.ofCell(c, what),
                        c < 0 || c >= world.cells() ? UNKNOWN : OUTSIDE, Still.NAMES_NONE);
                }
            }
            for (int c : Numbers.outside(0, world.cells() - 1)) {
                for (int what = 0; what < 5; what++) {
                    int asked = what;
                    still.due("ofCell(" + c + ", " + what + ")", x -> x.ofCell(c, asked), UNKNOWN, Still.NAMES_NONE);
                }
            }
            still.end();
        }
    }

    /** PACE at first becomes v (0 .. 3): what it was. OUTSIDE; STATE: there is no RIVER. */
    private static void pace(Check check) {
        for (World world : World.values()) {
            Still still = new Still(check, world);
            for (int v : Numbers.outside(0, 3)) {
                still.due("pace(" + v + ")", x -> x.pace(v), OUTSIDE, Still.NAMES_NONE);
            }
            for (int v = 0; v <= 3 && world.cells() == 0; v++) {
                int to = v;
                still.due("pace(" + v + ")", x -> x.pace(to), STATE, Still.NAMES_NONE);
            }
            still.end();
        }
        PoleBehind x = World.FULL.make();
        for (int was = 0; was <= 3; was++) {
            for (int to = 0; to <= 3; to++) {
                x.pace(was);
                check.due("pace(" + to + ") where it was " + was, x.pace(to), was);
                check.due("many(1)", x.many(1), to);
            }
        }
        check.due("many(3), the readings stay", x.many(3), 8);
    }

    private static void bridge(Check check) {
        for (World world : World.values()) {
            Still still = new Still(check, world);
            for (int c : Numbers.outside(0, world.cells() - 1)) {
                still.due("bridge(" + c + ", true)", x -> x.bridge(c, true), UNKNOWN, Still.NAMES_NONE);
                still.due("bridge(" + c + ", false)", x -> x.bridge(c, false), UNKNOWN, Still.NAMES_NONE);
            }
            for (int c = 0; c < world.cells(); c++) {
                int of = c;
                boolean is = world.make().ofCell(c, 4) == 1;
                still.due("bridge(" + c + ", " + is + "), so it was", x -> x.bridge(of, is), 0, Still.NAMES_NONE);
            }
            still.end();
        }
        PoleBehind x = Told.objectWith("p0" + "d".repeat(16));
        for (int c = 0; c < 16; c++) {
            check.due("bridge(" + c + ", true)", x.bridge(c, true), 1);
            check.due("bridge(" + c + ", true), again", x.bridge(c, true), 0);
            check.due("many(2)", x.many(2), c + 1);
        }
        for (int c = 15; c >= 0; c--) {
            check.due("bridge(" + c + ", false)", x.bridge(c, false), 1);
            check.due("bridge(" + c + ", false), again", x.bridge(c, false), 0);
            check.due("many(2)", x.many(2), c);
        }
    }

    /** How many: 0 CELLS, 1 PACE at first, 2 BRIDGES, 3 READINGS (0 all without a RIVER). OUTSIDE. */
    private static void many(Check check) {
        int[][] due = {{0, 0, 0, 0}, {0, 0, 0, 0}, {10, 1, 2, 3}, {16, 0, 2, 8}};
        for (World world : World.values()) {
            Still still = new Still(check, world);
            for (int what : Numbers.outside(0, 3)) {
                still.due("many(" + what + ")", x -> x.many(what), OUTSIDE, Still.NAMES_NONE);
            }
            for (int what = 0; what <= 3; what++) {
                int asked = what;
                still.due("many(" + what + ")", x -> x.many(asked), due[world.ordinal()][what], Still.NAMES_NONE);
            }
            still.end();
        }
    }
}
