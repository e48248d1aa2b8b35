/** Promise 1, and the constants of the face. */
public final class NewObjectTest {
    public static void main(String[] args) {
        Check check = new Check("NewObjectTest");
        constants(check);
        noRiver(check);
        noSheets(check);
        objectsAreApart(check);
        check.end();
    }

    private static void constants(Check check) {
        check.due("UNKNOWN", PoleBehind.UNKNOWN, -1);
        check.due("OUTSIDE", PoleBehind.OUTSIDE, -2);
        check.due("STATE", PoleBehind.STATE, -3);
        check.due("FULL", PoleBehind.FULL, -4);
        check.due("NONE", PoleBehind.NONE, -9);
        check.due("LOST", PoleBehind.LOST, Long.MIN_VALUE);
    }

    private static void noRiver(Check check) {
        PoleBehind x = new PoleBehind();
        for (int what = 0; what <= 3; what++) {
            check.due("many(" + what + ")", x.many(what), 0);
        }
        check.due("trace()", x.trace(), 0);
        check.due("fault()", x.fault(), 0);
        check.due("soonest()", x.soonest(), PoleBehind.STATE);
        check.due("pace(0)", x.pace(0), PoleBehind.STATE);
        check.due("ofCell(0, 0)", x.ofCell(0, 0), PoleBehind.UNKNOWN);
        check.due("bridge(0, true)", x.bridge(0, true), PoleBehind.UNKNOWN);
        check.due("reading(1, 0)", x.reading(1, 0), PoleBehind.UNKNOWN);
        check.due("back(0)", x.back(0), 0);
    }

    private static void noSheets(Check check) {
        PoleBehind x = new PoleBehind();
        for (int k = 0; k < 4; k++) {
            check.due("lose(" + k + ")", x.lose(k), 0);
            check.due("put(" + k + ", 0, 0)", x.put(k, 0, 0), -11);
            check.due("cell(" + k + ", 0, 0)", x.cell(k, 0, 0), PoleBehind.LOST);
            check.due("fault()", x.fault(), 1);
        }
    }

    private static void objectsAreApart(Check check) {
        PoleBehind one = new PoleBehind();
        PoleBehind other = new PoleBehind();
        Told.river(one, "p2g1g2^");
        one.tell(0);
        check.due("other.many(0)", other.many(0), 0);
        check.due("other.trace()", other.trace(), 0);
        check.due("other.lose(0)", other.lose(0), 0);
    }
}
