import java.util.Arrays;

/** Promises 18 to 22, and 27: sheets, their rows, and the faults of a machine that holds them. */
public final class SheetTest {
    private static final int UNKNOWN = -1, OUTSIDE = -2;
    private static final long LOST = Long.MIN_VALUE;

    public static void main(String[] args) {
        Check check = new Check("SheetTest");
        sheet(check);
        sheetRefusals(check);
        lose(check);
        cutToLane(check);
        putRefusals(check);
        cellRefusals(check);
        copy(check);
        copyOntoItself(check);
        copyRefusals(check);
        faultOfTheLatestCall(check);
        check.end();
    }

    private static void sheet(Check check) {
        PoleBehind x = new PoleBehind();
        for (int k = 0; k < 4; k++) {
            for (int lane = 0; lane < 3; lane++) {
                check.due("sheet(" + k + ", " + lane + ", 60)", x.sheet(k, lane, 60), 1);
                check.due("put(" + k + ", 59, 5)", x.put(k, 59, 5), 1);
                check.due("put(" + k + ", 0, 6)", x.put(k, 0, 6), 1);
                check.due("put(" + k + ", 60, 5)", x.put(k, 60, 5), -13);
                check.due("cell(" + k + ", 59, " + lane + ")", x.cell(k, 59, lane), 5);
                check.due("sheet(" + k + ", " + lane + ", 60), again", x.sheet(k, lane, 60), 1);
                check.due("cell(" + k + ", 59, " + lane + ")", x.cell(k, 59, lane), 0);
                check.due("cell(" + k + ", 0, " + lane + ")", x.cell(k, 0, lane), 0);
            }
            check.due("sheet(" + k + ", 0, 0)", x.sheet(k, 0, 0), 1);
            check.due("put(" + k + ", 0, 1)", x.put(k, 0, 1), -13);
            check.due("lose(" + k + ")", x.lose(k), 1);
        }
    }

    private static void sheetRefusals(Check check) {
        PoleBehind x = new PoleBehind();
        x.sheet(1, 2, 3);
        x.put(1, 2, 77);
        check.due("sheet(-1, 3, -1)", x.sheet(-1, 3, -1), UNKNOWN);
        check.due("sheet(4, 3, -1)", x.sheet(4, 3, -1), UNKNOWN);
        check.due("sheet(1, 3, -1)", x.sheet(1, 3, -1), OUTSIDE);
        check.due("sheet(1, -1, -1)", x.sheet(1, -1, -1), OUTSIDE);
        check.due("sheet(1, 0, 61)", x.sheet(1, 0, 61), OUTSIDE);
        check.due("sheet of the most", x.sheet(1, 0, Integer.MAX_VALUE), OUTSIDE);
        check.due("fault()", x.fault(), 0);
        check.due("sheet(1, 0, -1)", x.sheet(1, 0, -1), -14);
        check.due("fault()", x.fault(), 4);
        check.due("sheet of the least", x.sheet(1, 0, Integer.MIN_VALUE), -14);
        check.due("cell(1, 2, 2), as it was", x.cell(1, 2, 2), 77);
        check.due("put(1, 3, 0), as long as it was", x.put(1, 3, 0), -13);
    }

    private static void lose(Check check) {
        PoleBehind x = new PoleBehind();
        check.due("lose(-1)", x.lose(-1), UNKNOWN);
        check.due("lose(4)", x.lose(4), UNKNOWN);
        x.sheet(2, 1, 4);
        check.due("lose(1)", x.lose(1), 0);
        check.due("lose(2)", x.lose(2), 1);
        check.due("lose(2), again", x.lose(2), 0);
        check.due("put(2, 0, 0)", x.put(2, 0, 0), -11);
        check.due("lose names no fault", x.lose(2) * 10 + x.fault(), 1);
        x.sheet(2, 2, 4);
        check.due("cell(2, 3, 2)", x.cell(2, 3, 2), 0);
    }

    private static void cutToLane(Check check) {
        int[] values = {0, 1, -1, 127, 128, -128, -129, 255, 256, 300, 32767, 32768, -32768, -32769, 65535, 65536, 70001,
            Integer.MAX_VALUE, Integer.MIN_VALUE};
        PoleBehind x = new PoleBehind();
        for (int lane = 0; lane < 3; lane++) {
            x.sheet(lane, lane, values.length);
            for (int i = 0; i < values.length; i++) {
                int due = lane == 0 ? (byte) values[i] : lane == 1 ? (short) values[i] : values[i];
                check.due("put(" + lane + ", " + i + ", " + values[i] + ")", x.put(lane, i, values[i]), 1);
                check.due("cell(" + lane + ", " + i + ", " + lane + ")", x.cell(lane, i, lane), due);
            }
        }
        check.due("128 as a byte", x.cell(0, 4, 0), -128);
        check.due("32768 as a short", x.cell(1, 11, 1), -32768);
    }

    private static void putRefusals(Check check) {
        PoleBehind x = new PoleBehind();
        check.due("put(-1, -1, 0)", x.put(-1, -1, 0), UNKNOWN);
        check.due("put(4, -1, 0)", x.put(4, -1, 0), UNKNOWN);
        check.due("fault()", x.fault(), 0);
        check.due("put(0, -1, 0)", x.put(0, -1, 0), -11);
        check.due("fault()", x.fault(), 1);
        x.sheet(0, 0, 2);
        int[] places = {-1, 2, 60, Integer.MIN_VALUE, Integer.MAX_VALUE};
        for (int i : places) {
            check.due("put(0, " + i + ", 9)", x.put(0, i, 9), -13);
            check.due("fault()", x.fault(), 3);
        }
        check.due("cell(0, 0, 0)", x.cell(0, 0, 0), 0);
        check.due("cell(0, 1, 0)", x.cell(0, 1, 0), 0);
    }

    private static void cellRefusals(Check check) {
        PoleBehind x = new PoleBehind();
        x.sheet(0, 1, 2);
        x.put(0, 1, 9);
        int[][] calls = {{-1, 0, 1}, {4, 0, 1}, {0, 0, 3}, {0, 0, -1}, {1, -1, 3}, {1, -1, 0}, {0, -1, 0}, {0, 9, 2},
            {0, -1, 1}, {0, 2, 1}, {0, Integer.MAX_VALUE, 1}, {0, Integer.MIN_VALUE, 1}};
        int[] faults = {0, 0, 0, 0, 0, 1, 2, 2, 3, 3, 3, 3};
        for (int k = 0; k < calls.length; k++) {
            String told = "cell of " + Arrays.toString(calls[k]);
            check.due(told, x.cell(calls[k][0], calls[k][1], calls[k][2]), LOST);
            check.due(told + ", fault()", x.fault(), faults[k]);
        }
        check.due("cell(0, 1, 1)", x.cell(0, 1, 1), 9);
        check.due("fault()", x.fault(), 0);
    }

    private static PoleBehind withRows() {
        PoleBehind x = new PoleBehind();
        x.sheet(0, 1, 5);
        x.sheet(1, 1, 4);
        for (int i = 0; i < 5; i++) {
            x.put(0, i, 10 + i);
        }
        for (int i = 0; i < 4; i++) {
            x.put(1, i, 20 + i);
        }
        return x;
    }

    private static void row(Check check, PoleBehind x, int k, int lane, int... due) {
        for (int i = 0; i < due.length; i++) {
            check.due("cell(" + k + ", " + i + ", " + lane + ")", x.cell(k, i, lane), due[i]);
        }
        check.due("the row's end", x.put(k, due.length, 0), -13);
    }

    private static void copy(Check check) {
        PoleBehind x = withRows();
        check.due("copy(0, 1, 1, 0, 3)", x.copy(0, 1, 1, 0, 3), 3);
        row(check, x, 0, 1, 10, 11, 12, 13, 14);
        row(check, x, 1, 1, 11, 12, 13, 23);
        check.due("copy(1, 3, 0, 4, 1)", x.copy(1, 3, 0, 4, 1), 1);
        row(check, x, 0, 1, 10, 11, 12, 13, 23);
        check.due("copy(0, 5, 1, 4, 0)", x.copy(0, 5, 1, 4, 0), 0);
        check.due("copy(0, 0, 1, 0, 4)", x.copy(0, 0, 1, 0, 4), 4);
        check.due("fault()", x.fault(), 0);
        row(check, x, 1, 1, 10, 11, 12, 13);
    }

    private static void copyOntoItself(Check check) {
        PoleBehind x = withRows();
        check.due("copy(0, 0, 0, 1, 4)", x.copy(0, 0, 0, 1, 4), 4);
        row(check, x, 0, 1, 10, 10, 11, 12, 13);
        check.due("copy(0, 2, 0, 0, 3)", x.copy(0, 2, 0, 0, 3), 3);
        row(check, x, 0, 1, 11, 12, 13, 12, 13);
        check.due("copy(0, 1, 0, 1, 4)", x.copy(0, 1, 0, 1, 4), 4);
        row(check, x, 0, 1, 11, 12, 13, 12, 13);
    }

    private static void copyRefusals(Check check) {
        PoleBehind x = withRows();
        x.sheet(2, 0, 5);
        int[][] calls = {{-1, 0, 3, 0, 0}, {4, 0, 3, 0, 0}, {3, 0, -1, 0, 0}, {3, 0, 4, 0, 0},
            {3, 0, 0, -1, 0}, {0, -1, 3, 0, 0}, {3, 0, 3, 0, -1}, {2, 0, 3, 0, 0}, {0, -1, 2, 0, 0}, {2, 0, 0, 0, 9},
            {0, -1, 1, 0, 1}, {0, 0, 1, -1, 1}, {0, 0, 1, 0, -1}, {0, 6, 1, 0, 0}, {0, 0, 1, 5, 0}, {0, 2, 1, 0, 4},
            {0, 0, 1, 1, 4}, {0, 0, 1, 0, 5}, {0, 1, 1, 0, Integer.MAX_VALUE}, {0, Integer.MAX_VALUE, 1, 0, Integer.MAX_VALUE},
            {0, 0, 1, Integer.MAX_VALUE, 1}, {0, 0, 0, 1, 5}, {0, Integer.MIN_VALUE, 1, 0, 0}, {0, 0, 1, 0, Integer.MIN_VALUE}};
        int[] answers = {UNKNOWN, UNKNOWN, UNKNOWN, UNKNOWN, -11, -11, -11, -11, -12, -12,
            -13, -13, -13, -13, -13, -13, -13, -13, -13, -13, -13, -13, -13, -13};
        for (int k = 0; k < calls.length; k++) {
            int[] c = calls[k];
            String told = "copy of " + Arrays.toString(c);
            check.due(told, x.copy(c[0], c[1], c[2], c[3], c[4]), answers[k]);
            check.due(told + ", fault()", x.fault(), answers[k] == UNKNOWN ? 0 : -10 - answers[k]);
        }
        row(check, x, 0, 1, 10, 11, 12, 13, 14);
        row(check, x, 1, 1, 20, 21, 22, 23);
    }

    /** Each call that names faults tells its own, and 0 if it came to none or was refused. */
    private static void faultOfTheLatestCall(Check check) {
        PoleBehind x = Told.objectWith("p1g1g1g1");
        Told.acts(x, 1, 1);
        for (int number = 0; number <= 18; number++) {
            x.sheet(1, 0, -1);
            check.due("fault(), again and again", x.fault() * 10 + x.fault(), 44);
            callOf(x, number);
            check.due("fault() behind call " + number, x.fault(), number < 9 ? 4 : 0);
        }
    }

    private static void callOf(PoleBehind x, int number) {
        switch (number) {
            case 0: x.ofCell(0, 0); break;
            case 1: x.pace(1); break;
            case 2: x.bridge(0, true); break;
            case 3: x.soonest(); x.surest(3, 0); x.sure(3, 0); x.cost(0); break;
            case 4: x.reading(1, 1); x.back(0); x.ways(2, 0); break;
            case 5: x.lose(2); x.lose(9); break;
            case 6: x.tell(0); x.sound(0); x.trace(); break;
            case 7: x.many(0); x.many(9); break;
            case 8: x.cost(9); x.tell(9); x.surest(0, 0); break;
            case 9: x.river(3, 2, 0, 1); break;
            case 10: x.plan(3, 2, 0, 1, 0); break;
            case 11: x.dry(3, 2, 0, 1, 0); break;
            case 12: x.kinds(0, 3, 2, 0, 1, 0); x.muds(0, 3, 2, 0, 1, 0); break;
            case 13: x.odds(3, 2, 0, 1, 0); break;
            case 14: x.put(3, 0, 1); break;
            case 15: x.copy(3, 0, 3, 0, 1); break;
            case 16: x.sheet(2, 0, 1); break;
            case 17: x.cell(3, 0, 2); break;
            default: x.as(0, 0); break;
        }
    }
}
