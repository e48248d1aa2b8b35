import java.math.BigInteger;

/** Boundary cases of promises 23 to 27: telling, sounding, a cell taken as one of a kind, trace, fault. */
public final class PartsEdgeTest {
    private static final int UNKNOWN = -1, OUTSIDE = -2, CAST = -12;

    public static void main(String[] args) {
        Check check = new Check("PartsEdgeTest");
        noCell(check);
        asInTheOrderTold(check);
        tellOfLeastAndMost(check);
        soundOfEachCell(check);
        traceWrapsOften(check);
        traceJustBeyondTheGreatest(check);
        traceOfOthersCalls(check);
        faultAheadOfAny(check);
        faultIsTheLatest(check);
        check.end();
    }

    private static void noCell(Check check) {
        for (World world : World.values()) {
            Still still = new Still(check, world);
            for (int c : Numbers.outside(0, world.cells() - 1)) {
                still.due("tell(" + c + ")", x -> x.tell(c), UNKNOWN, Still.NAMES_NONE);
                still.due("sound(" + c + ")", x -> x.sound(c), UNKNOWN, Still.NAMES_NONE);
            }
            still.due("trace()", PoleBehind::trace, world.make().trace(), Still.NAMES_NONE);
            still.end();
        }
    }

    /** UNKNOWN; OUTSIDE; CAST: it is none. */
    private static void asInTheOrderTold(Check check) {
        for (World world : World.values()) {
            Still still = new Still(check, world);
            for (int c : Numbers.about(0, Math.max(1, world.cells()) - 1)) {
                int ownKind = world.make().ofCell(c, 0);
                for (int kind : Numbers.about(0, 2)) {
                    Due due = new Due().wrong(c < 0 || c >= world.cells(), UNKNOWN).wrong(kind < 0 || kind > 2, OUTSIDE)
                        .wrong(ownKind < kind, CAST);
                    still.due("as(" + c + ", " + kind + ")", x -> x.as(c, kind), due.or(1), due.fault());
                }
            }
            still.end();
        }
    }

    private static void tellOfLeastAndMost(Check check) {
        String[] cells = {"g0", "g9", "d", "d^", "m0", "m9", "c0", "c9", "c9^"};
        int[] due = {0, 9, 0, 0, 100, 109, 100, 118, 118};
        int[][] bodies = {{1}, {1}, {1}, {1}, {2, 1}, {2, 1}, {3, 2, 1, 1}, {3, 2, 1, 1}, {3, 2, 1, 1}};
        for (int k = 0; k < cells.length; k++) {
            for (int c = 0; c < 16; c += 15) {
                PoleBehind x = Told.objectWith("p0" + (c == 0 ? cells[k] : "") + "g5".repeat(15) + (c == 0 ? "" : cells[k]));
                check.due("tell of " + cells[k], x.tell(c), due[k]);
                check.due("trace() behind it", x.trace(), wrapped(BigInteger.ZERO, bodies[k]));
            }
        }
    }

    /** An int that wraps becomes 31 times it and the number. */
    private static int wrapped(BigInteger trace, int... numbers) {
        BigInteger sum = trace;
        for (int number : numbers) {
            sum = sum.multiply(BigInteger.valueOf(31)).add(BigInteger.valueOf(number));
        }
        return sum.intValue();
    }

    private static void soundOfEachCell(Check check) {
        PoleBehind x = Told.objectWith("p0" + "g9d".repeat(7) + "m0c0");
        for (int c = 0; c < 16; c++) {
            int before = x.trace();
            check.due("sound(" + c + ")", x.sound(c), c == 15 ? 50 : c);
            check.due("trace() behind it", x.trace(), wrapped(BigInteger.valueOf(before), c == 15 ? 5 : 4));
        }
    }

    private static void traceWrapsOften(Check check) {
        PoleBehind x = Told.objectWith("p0g1m1c1d");
        int[][] bodies = {{1}, {2, 1}, {3, 2, 1, 1}, {1}};
        BigInteger trace = BigInteger.ZERO;
        boolean wasBelow = false;
        for (int round = 0; round < 100; round++) {
            int c = round % 4;
            x.tell(c);
            trace = BigInteger.valueOf(wrapped(trace, bodies[c]));
            check.due("trace() behind tell " + round, x.trace(), trace.intValue());
            x.sound(c);
            trace = BigInteger.valueOf(wrapped(trace, c == 2 ? 5 : 4));
            check.due("trace() behind sound " + round, x.trace(), trace.intValue());
            wasBelow |= trace.signum() < 0;
        }
        check.holds("it wrapped to below 0", wasBelow);
    }

    /** The seventh number takes it past the greatest int, the eighth past the least. */
    private static void traceJustBeyondTheGreatest(Check check) {
        PoleBehind x = Told.objectWith("p0g1g1");
        int[] due = {4, 128, 3972, 123136, 3817220, 118333824, -626618748, 2049655296};
        for (int k = 0; k < due.length; k++) {
            x.sound(0);
            check.due("trace() behind sound " + (k + 1), x.trace(), due[k]);
        }
    }

    /** But for tell and sound no call leaves a number, and a refused one does not. */
    private static void traceOfOthersCalls(Check check) {
        PoleBehind x = World.FULL.make();
        int due = x.trace();
        x.as(2, 2);
        x.ofCell(2, 2);
        x.kinds(0, 2, 2, 0, 1, 10);
        x.muds(0, 2, 2, 0, 1, 10);
        x.tell(16);
        x.sound(-1);
        x.river(0, 0, 0, World.FULL.text().length());
        check.due("trace()", x.trace(), due);
    }

    private static void faultAheadOfAny(Check check) {
        PoleBehind x = new PoleBehind();
        check.due("fault()", x.fault(), 0);
        x.lose(0);
        x.lose(-1);
        x.tell(0);
        x.pace(0);
        x.surest(0, 0);
        x.ways(0, 0);
        check.due("fault() behind calls that name none", x.fault(), 0);
    }

    /** Each FAULT in turn, then 0 by a call that came to none or was refused, as each of those that name one. */
    private static void faultIsTheLatest(Check check) {
        for (int number = 0; number < 22; number++) {
            PoleBehind x = World.RIVER.make();
            int[] due = {1, 2, 3, 4};
            for (int fault : due) {
                comeTo(x, fault);
                check.due("fault()", x.fault(), fault);
                check.due("fault(), again", x.fault(), fault);
                String told = (number % 2 == 0 ? "well asked " : "refused ") + number / 2;
                callOf(x, number / 2, number % 2 == 0);
                check.due("fault() behind a call, " + told, x.fault(), 0);
            }
        }
    }

    private static void comeTo(PoleBehind x, int fault) {
        switch (fault) {
            case 1 -> x.put(3, 0, 0);
            case 2 -> x.cell(2, 0, 0);
            case 3 -> x.put(2, 19, 0);
            default -> x.sheet(1, 1, -1);
        }
    }

    private static void callOf(PoleBehind x, int number, boolean isWell) {
        int lane = isWell ? 2 : 3;
        switch (number) {
            case 0 -> x.river(2, lane, 0, 1);
            case 1 -> x.plan(2, lane, 0, 1, 0);
            case 2 -> x.dry(2, lane, 0, 1, 0);
            case 3 -> x.odds(2, lane, 0, 1, 0);
            case 4 -> x.kinds(0, 2, lane, 0, 1, 10);
            case 5 -> x.muds(0, 2, lane, 0, 1, 10);
            case 6 -> x.sheet(0, lane, 1);
            case 7 -> x.put(isWell ? 2 : 4, 0, 1);
            case 8 -> x.cell(2, 0, lane);
            case 9 -> x.copy(2, 0, isWell ? 2 : -1, 0, 1);
            default -> x.as(0, isWell ? 0 : 3);
        }
    }
}
