import java.util.Arrays;

/** Promises 12 to 16: readings, ways, the kinds and the muds that a cell may be of. */
public final class SeenTest {
    private static final int UNKNOWN = -1, OUTSIDE = -2, STATE = -3, FULL = -4, NONE = -9;
    private static final int PUSH = 0, TRAIL = 1, TWIST = 2, PADDLE = 3;

    public static void main(String[] args) {
        Check check = new Check("SeenTest");
        readings(check);
        readingRefusals(check);
        back(check);
        waysWithoutReadings(check);
        waysWithReadings(check);
        waysThatEndAtTheTea(check);
        waysRefusals(check);
        kinds(check);
        muds(check);
        deepAndStrangeCells(check);
        setRefusals(check, true);
        setRefusals(check, false);
        check.end();
    }

    private static void readings(Check check) {
        PoleBehind x = Told.objectWith("p0g1g1g1");
        for (int k = 0; k < 8; k++) {
            check.due("reading(12, 2)", x.reading(12, 2), k);
            check.due("many(3)", x.many(3), k + 1);
        }
        check.due("a ninth one", x.reading(1, 0), FULL);
        check.due("a ninth one, outside", x.reading(0, 0), OUTSIDE);
        check.due("a ninth one, unknown", x.reading(0, 3), UNKNOWN);
        check.due("many(3)", x.many(3), 8);
        x.pace(3);
        x.bridge(1, true);
        check.due("many(3), behind a pace and a bridge", x.many(3), 8);
    }

    private static void readingRefusals(Check check) {
        PoleBehind x = Told.objectWith("p0g1g1g1");
        check.due("reading(0, -1)", x.reading(0, -1), UNKNOWN);
        check.due("reading(0, 3)", x.reading(0, 3), UNKNOWN);
        check.due("reading(0, 0)", x.reading(0, 0), OUTSIDE);
        check.due("reading(13, 0)", x.reading(13, 0), OUTSIDE);
        check.due("reading(-1, 0)", x.reading(-1, 0), OUTSIDE);
        check.due("many(3)", x.many(3), 0);
        check.due("reading(1, 2)", x.reading(1, 2), 0);
    }

    private static void back(Check check) {
        PoleBehind x = Told.objectWith("p0g1g1g1");
        check.due("back(1), of none", x.back(1), OUTSIDE);
        check.due("back(0), of none", x.back(0), 0);
        x.reading(1, 0);
        x.reading(2, 1);
        x.reading(3, 1);
        check.due("back(-1)", x.back(-1), OUTSIDE);
        check.due("back(4)", x.back(4), OUTSIDE);
        check.due("back of the most", x.back(Integer.MAX_VALUE), OUTSIDE);
        check.due("back of the least", x.back(Integer.MIN_VALUE), OUTSIDE);
        check.due("back(0)", x.back(0), 3);
        check.due("back(2)", x.back(2), 1);
        check.due("the first one is left", x.ways(1, 0), TRAIL);
        check.due("the second one is not", x.ways(2, 1), PUSH);
        check.due("reading(2, 0), numbered anew", x.reading(2, 0), 1);
        check.due("ways(2, 1)", x.ways(2, 1), TRAIL);
        check.due("back(2)", x.back(2), 0);
        check.due("many(3)", x.many(3), 0);
    }

    private static void waysWithoutReadings(Check check) {
        PoleBehind x = Told.objectWith("p0" + "g1".repeat(16));
        check.due("ways(0, -1)", x.ways(0, -1), 1);
        check.due("ways(0, 0)", x.ways(0, 0), NONE);
        for (int n = 1; n <= 5; n++) {
            check.due("ways(" + n + ", -1)", x.ways(n, -1), 1 << 2 * n);
            for (int q = 0; q < 7; q++) {
                check.due("ways(" + n + ", " + q + ")", x.ways(n, q), q < n ? PUSH : NONE);
            }
        }
        // By 24 rows of six acts it comes to the tea, where none of four acts can follow.
        check.due("ways(6, -1)", x.ways(6, -1), 4096);
        check.due("ways(7, -1)", x.ways(7, -1), 16384 - 24 * 4);
        check.due("ways(7, 4), to 12 by five pushes", x.ways(7, 4), PUSH);
        check.due("ways(7, 5), short of the tea", x.ways(7, 5), TRAIL);
        check.due("ways(7, 6)", x.ways(7, 6), PUSH);
    }

    private static void waysWithReadings(Check check) {
        PoleBehind x = Told.objectWith("p1g1g1dg1g1g1g1");
        x.reading(2, 1);
        check.due("ways(1, -1), no reading of turn 1", x.ways(1, -1), 4);
        check.due("ways(2, -1)", x.ways(2, -1), 5);
        check.due("ways(2, 0)", x.ways(2, 0), TRAIL);
        check.due("ways(2, 1)", x.ways(2, 1), PUSH);
        check.due("ways(0, -1)", x.ways(0, -1), 1);
        x.reading(4, 6);
        check.due("ways(2, -1), no matter what follows", x.ways(2, -1), 5);
        check.due("ways(4, -1)", x.ways(4, -1), 3);
        check.due("ways(4, 3)", x.ways(4, 3), PUSH);
        check.due("ways(3, -1), not yet so far", x.ways(3, -1), 3 * 4 + 2 * 4);
        check.due("ways(5, -1), from the tea", x.ways(5, -1), 0);
        check.due("ways(5, 0)", x.ways(5, 0), NONE);
        x.reading(2, 1);
        check.due("the same once more", x.ways(2, -1), 5);
        x.reading(2, 2);
        check.due("one that gainsays it", x.ways(2, -1), 0);
        check.due("ways(2, 0)", x.ways(2, 0), NONE);
        check.due("ways(7, 6)", x.ways(7, 6), NONE);
        check.due("ways(1, -1)", x.ways(1, -1), 4);
    }

    private static void waysThatEndAtTheTea(Check check) {
        PoleBehind x = Told.objectWith("p0dd");
        for (int n = 1; n <= 7; n++) {
            check.due("ways(" + n + ", -1)", x.ways(n, -1), 2);
            check.due("ways(" + n + ", n - 1)", x.ways(n, n - 1), TRAIL);
        }
        x.reading(3, 1);
        check.due("ways(3, -1)", x.ways(3, -1), 1);
        check.due("ways(3, 1)", x.ways(3, 1), TRAIL);
        check.due("ways(3, 2)", x.ways(3, 2), PADDLE);
        x.bridge(1, true);
        x.pace(2);
        check.due("ways(1, -1), by paces 1 and 1", x.ways(1, -1), 2);
    }

    private static void waysRefusals(Check check) {
        PoleBehind x = new PoleBehind();
        int[][] outside = {{-1, 0}, {8, 0}, {0, -2}, {0, 7}, {7, Integer.MAX_VALUE}, {Integer.MIN_VALUE, -1}};
        for (int round = 0; round < 2; round++) {
            for (int[] call : outside) {
                check.due("ways(" + call[0] + ", " + call[1] + ")", x.ways(call[0], call[1]), OUTSIDE);
            }
            check.due("ways(0, -1)", x.ways(0, -1), round == 0 ? STATE : 1);
            check.due("ways(7, 6)", x.ways(7, 6), round == 0 ? STATE : TRAIL);
            Told.river(x, "p0dd");
        }
    }

    private static final String RIVER = "p0g3m2c9g0dg5g1";

    private static void kinds(Check check) {
        PoleBehind x = Told.objectWith(RIVER);
        check.due("a push in cell 0, 7 of 10", Told.kinds(x, 0, 7, PUSH), 1);
        check.due("6 of 10", Told.kinds(x, 0, 6, PUSH), 2);
        check.due("2 of 10", Told.kinds(x, 0, 2, PUSH), 4);
        check.due("5 of 10", Told.kinds(x, 0, 5, PUSH), 0);
        check.due("a push in cell 1, 70 of 100", Told.kinds(x, 1, 70, PADDLE, PUSH), 2);
        check.due("80 of 100", Told.kinds(x, 1, 80, PADDLE, PUSH), 1);
        check.due("40 of 100", Told.kinds(x, 1, 40, PADDLE, PUSH), 4);
        check.due("7 of 100", Told.kinds(x, 1, 7, PADDLE, PUSH), 0);
        check.due("a twist in cell 1, 90 of 100", Told.kinds(x, 1, 90, PADDLE, TWIST), 3);
        check.due("70 of 100", Told.kinds(x, 1, 70, PADDLE, TWIST), 4);
        check.due("a push in cell 2, 100 of 1000", Told.kinds(x, 2, 100, PADDLE, PADDLE, PUSH), 7);
        check.due("two pushes, 49 of 100, cell 0", Told.kinds(x, 0, 49, PUSH, PUSH), 1);
        check.due("cell 1", Told.kinds(x, 1, 49, PUSH, PUSH), 2);
        check.due("56 of 100, cell 0", Told.kinds(x, 0, 56, PUSH, PUSH), 0);
        check.due("cell 1", Told.kinds(x, 1, 56, PUSH, PUSH), 1);
        check.due("ofCell(1, 0), as ever", x.ofCell(1, 0), 1);
        check.due("ofCell(1, 2), as ever", x.ofCell(1, 2), 3);
    }

    private static void muds(Check check) {
        PoleBehind x = Told.objectWith(RIVER);
        check.due("a push in cell 0, 7 of 10", Told.muds(x, 0, 7, PUSH), 8);
        check.due("10 of 10", Told.muds(x, 0, 10, PUSH), 1);
        check.due("1 of 10", Told.muds(x, 0, 1, PUSH), 512);
        check.due("0 of 10", Told.muds(x, 0, 0, PUSH), 0);
        check.due("a push in cell 1, 10 of 100", Told.muds(x, 1, 10, PADDLE, PUSH), 768);
        check.due("a twist in cell 1, 100 of 100", Told.muds(x, 1, 100, PADDLE, TWIST), 1);
        check.due("90 of 100", Told.muds(x, 1, 90, PADDLE, TWIST), 6);
        check.due("80 of 100", Told.muds(x, 1, 80, PADDLE, TWIST), 24);
        check.due("a push in cell 2, 100 of 1000", Told.muds(x, 2, 100, PADDLE, PADDLE, PUSH), 1008);
        check.due("800 of 1000", Told.muds(x, 2, 800, PADDLE, PADDLE, PUSH), 1);
        check.due("200 of 1000", Told.muds(x, 2, 200, PADDLE, PADDLE, PUSH), 8);
        check.due("two pushes, 56 of 100, cell 0", Told.muds(x, 0, 56, PUSH, PUSH), 4);
        check.due("63 of 100, cell 0", Told.muds(x, 0, 63, PUSH, PUSH), 2);
        check.due("63 of 100, cell 1", Told.muds(x, 1, 63, PUSH, PUSH), 1);
        check.due("ofCell(0, 1), as ever", x.ofCell(0, 1), 3);
    }

    private static void deepAndStrangeCells(Check check) {
        PoleBehind x = Told.objectWith(RIVER);
        sets(check, x, 6, 49, true, PUSH, PUSH);
        sets(check, x, 6, 50, false, PUSH, PUSH);
        sets(check, x, 4, 100000, true, PADDLE, PADDLE, PADDLE, PADDLE, TRAIL);
        sets(check, x, 4, 99999, false, PADDLE, PADDLE, PADDLE, PADDLE, TRAIL);
        sets(check, x, 4, 10, false, PADDLE, PADDLE, PADDLE, PADDLE, TRAIL);
        sets(check, x, 0, 1, true);
        sets(check, x, 0, 0, false);
        sets(check, x, 0, 10, false);
        sets(check, x, 0, 1000000000, true, TRAIL, TRAIL, TRAIL, TRAIL, TRAIL, TRAIL, TRAIL, TRAIL, TRAIL);
        sets(check, x, 0, 1000000000, false, TRAIL, TRAIL, TRAIL, TRAIL, TRAIL, TRAIL, TRAIL, TRAIL);
        PoleBehind y = Told.objectWith("p0g3dg3g3");
        sets(check, y, 1, 700, true, PUSH, PADDLE, PADDLE);
    }

    /** That all kinds and all muds will do, or none. */
    private static void sets(Check check, PoleBehind x, int c, int up, boolean all, int... acts) {
        check.due("kinds of " + c + ", " + up, Told.kinds(x, c, up, acts), all ? 7 : 0);
        check.due("muds of " + c + ", " + up, Told.muds(x, c, up, acts), all ? 1023 : 0);
    }

    private static void setRefusals(Check check, boolean ofKinds) {
        PoleBehind x = new PoleBehind();
        Told.acts(x, PUSH, PUSH, PUSH, TRAIL, 4, -1);
        refused(check, x, ofKinds, new int[] {0, 3, 2, 0, 1, 1}, UNKNOWN, 0);
        Told.river(x, "p0g1g1dg1");
        Told.acts(x, PUSH, PUSH, PUSH, TRAIL, 4, -1);
        int[][] calls = {{-1, 3, 3, 0, 1, 1}, {4, 3, 3, 0, 1, 1}, {0, 4, 3, 0, 1, 1}, {0, -1, 3, 0, 1, 1},
            {0, 2, 3, 0, 1, 1}, {0, 2, -1, 0, 1, 1}, {0, 3, 1, 0, 10, 1}, {0, 3, 1, 0, -1, 1},
            {0, 3, 1, 9, 1, -1}, {0, 3, 1, 9, 1, 1000000001}, {0, 3, 1, 9, 1, Integer.MIN_VALUE},
            {0, 3, 1, 9, 1, 1}, {0, 2, 1, 9, 1, 1}, {0, 3, 2, 7, 0, 1}, {0, 3, 2, -1, 1, 1}, {0, 3, 2, 5, 2, 1},
            {0, 3, 2, 0, 7, 1}, {0, 3, 2, 0, 5, 1}, {0, 3, 2, 0, 6, 1}, {0, 3, 2, 5, 1, 1}, {0, 3, 2, 0, 3, 1}, {0, 3, 2, 0, 4, 1}};
        int[] answers = {UNKNOWN, UNKNOWN, UNKNOWN, UNKNOWN, OUTSIDE, OUTSIDE, OUTSIDE, OUTSIDE, OUTSIDE, OUTSIDE, OUTSIDE,
            -12, -11, -13, -13, -13, -13, OUTSIDE, OUTSIDE, OUTSIDE, -102, -102};
        for (int k = 0; k < calls.length; k++) {
            refused(check, x, ofKinds, calls[k], answers[k], answers[k] <= -11 && answers[k] >= -14 ? -10 - answers[k] : 0);
        }
        refused(check, x, ofKinds, new int[] {0, 3, 2, 6, 0, 1}, ofKinds ? 7 : 1023, 0);
    }

    private static void refused(Check check, PoleBehind x, boolean ofKinds, int[] call, int answer, int fault) {
        String told = (ofKinds ? "kinds of " : "muds of ") + Arrays.toString(call);
        int got = ofKinds ? x.kinds(call[0], call[1], call[2], call[3], call[4], call[5])
            : x.muds(call[0], call[1], call[2], call[3], call[4], call[5]);
        check.due(told, got, answer);
        check.due(told + ", fault()", x.fault(), fault);
    }
}
