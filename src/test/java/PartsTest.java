/** Promises 23 to 27: telling, sounding, a cell taken as one of a kind, trace. */
public final class PartsTest {
    private static final int UNKNOWN = -1, OUTSIDE = -2;

    public static void main(String[] args) {
        Check check = new Check("PartsTest");
        tell(check);
        sound(check);
        as(check);
        traceWraps(check);
        refusals(check);
        check.end();
    }

    private static int traceOf(int... numbers) {
        int trace = 0;
        for (int number : numbers) {
            trace = 31 * trace + number;
        }
        return trace;
    }

    private static void tell(Check check) {
        String[] cells = {"g7", "g0", "d", "m7", "m0", "c7", "c0"};
        int[] told = {7, 0, 0, 107, 100, 114, 100};
        int[][] bodies = {{1}, {1}, {1}, {2, 1}, {2, 1}, {3, 2, 1, 1}, {3, 2, 1, 1}};
        for (int k = 0; k < cells.length; k++) {
            PoleBehind x = Told.objectWith("p1d" + cells[k]);
            check.due("tell of " + cells[k], x.tell(1), told[k]);
            check.due("trace behind " + cells[k], x.trace(), traceOf(bodies[k]));
        }
    }

    private static void sound(Check check) {
        PoleBehind x = Told.objectWith("p1g9m9dc9g1");
        int[] told = {0, 1, 2, 50, 4};
        int[] bodies = {4, 4, 4, 5, 4};
        for (int c = 0; c < told.length; c++) {
            int before = x.trace();
            check.due("sound(" + c + ")", x.sound(c), told[c]);
            check.due("trace()", x.trace(), 31 * before + bodies[c]);
        }
    }

    private static void as(Check check) {
        PoleBehind x = Told.objectWith("p1g9m9c9d");
        int[] kinds = {0, 1, 2, 0};
        for (int c = 0; c < kinds.length; c++) {
            for (int kind = 0; kind < 3; kind++) {
                boolean isOne = kind <= kinds[c];
                check.due("as(" + c + ", " + kind + ")", x.as(c, kind), isOne ? 1 : -12);
                check.due("fault()", x.fault(), isOne ? 0 : 2);
            }
            check.due("as(" + c + ", 3)", x.as(c, 3), OUTSIDE);
            check.due("fault()", x.fault(), 0);
            check.due("as(" + c + ", -1)", x.as(c, -1), OUTSIDE);
        }
        x.as(0, 2);
        check.due("as(4, 3)", x.as(4, 3), UNKNOWN);
        check.due("fault()", x.fault(), 0);
        check.due("as(-1, 0)", x.as(-1, 0), UNKNOWN);
        check.due("trace(), of no body", x.trace(), 0);
    }

    private static void traceWraps(Check check) {
        PoleBehind x = Told.objectWith("p1c1d");
        int due = 0;
        for (int round = 0; round < 20; round++) {
            x.tell(0);
            due = 31 * (31 * (31 * (31 * due + 3) + 2) + 1) + 1;
            check.due("trace() behind " + round, x.trace(), due);
            check.due("trace(), again", x.trace(), due);
        }
        Told.river(x, "p1g1g1");
        check.due("trace(), behind a river", x.trace(), due);
    }

    private static void refusals(Check check) {
        PoleBehind x = new PoleBehind();
        check.due("tell(0), no river", x.tell(0), UNKNOWN);
        check.due("sound(0), no river", x.sound(0), UNKNOWN);
        check.due("as(0, 0), no river", x.as(0, 0), UNKNOWN);
        Told.river(x, "p1g1g1");
        int[] places = {-1, 2, 16, Integer.MAX_VALUE, Integer.MIN_VALUE};
        for (int c : places) {
            check.due("tell(" + c + ")", x.tell(c), UNKNOWN);
            check.due("sound(" + c + ")", x.sound(c), UNKNOWN);
            check.due("as(" + c + ", 5)", x.as(c, 5), UNKNOWN);
        }
        check.due("trace()", x.trace(), 0);
    }
}
