/** An object is used for at most 512 calls: the last of them is answered as the first would be. */
public final class CallsTest {
    private static final int MOST_CALLS = 512;

    public static void main(String[] args) {
        Check check = new Check("CallsTest");
        cheapCalls(check);
        riversAndReadings(check);
        dearCalls(check);
        traceOfAllCalls(check);
        check.end();
    }

    private static void cheapCalls(Check check) {
        PoleBehind x = new PoleBehind();
        check.due("call 1", x.sheet(0, 2, 60), 1);
        for (int call = 2; call <= MOST_CALLS; call += 2) {
            check.due("call " + call, x.put(0, call % 60, call), 1);
            if (call < MOST_CALLS) {
                check.due("call " + (call + 1), x.cell(0, call % 60, 2), call);
            }
        }
    }

    /** Rivers, readings and rows made anew as often as may be: none is ever too many. */
    private static void riversAndReadings(Check check) {
        PoleBehind x = Told.objectWith("p3g1^g1");
        int calls = 9;
        for (int round = 0; calls + 4 <= MOST_CALLS; round++) {
            check.due("river, round " + round, x.river(0, 0, 0, 7), 2);
            check.due("reading, round " + round, x.reading(1, 1), 0);
            check.due("sheet, round " + round, x.sheet(1 + round % 3, round % 3, 60), 1);
            check.due("back, round " + round, x.back(1), 0);
            calls += 4;
        }
        while (calls < MOST_CALLS) {
            check.due("call " + ++calls, x.many(0), 2);
        }
    }

    private static void dearCalls(Check check) {
        PoleBehind x = Told.objectWith("p0g0g0g0g0g0g0");
        int calls = 16;
        boolean is = false;
        while (calls + 3 <= MOST_CALLS) {
            is = !is;
            check.due("bridge", x.bridge(4, is), 1);
            check.due("surest(12, -1)", x.surest(12, -1), is ? 4 : 3);
            check.due("ways(7, -1)", x.ways(7, -1) > 0 ? 1 : 0, 1);
            calls += 3;
        }
        while (calls < MOST_CALLS) {
            check.due("call " + ++calls, x.soonest(), is ? 4 : 3);
        }
    }

    private static void traceOfAllCalls(Check check) {
        PoleBehind x = Told.objectWith("p0dc9");
        int calls = 7;
        int due = 0;
        while (calls < MOST_CALLS - 1) {
            check.due("sound(1)", x.sound(1), 50);
            due = 31 * due + 5;
            calls++;
        }
        check.due("trace(), the last call", x.trace(), due);
    }
}
