/** Promises 2 to 5, and 28: a river by a text, its cells, its pace, its bridges. */
public final class RiverTest {
    private static final int UNKNOWN = -1, OUTSIDE = -2, STATE = -3;

    public static void main(String[] args) {
        Check check = new Check("RiverTest");
        textsThatAreTaken(check);
        firstFaults(check);
        textsOfEachLane(check);
        partOfASheet(check);
        riverRefusals(check);
        refusedTextChangesNothing(check);
        takenTextMakesAllAnew(check);
        manyRiversOfOneObject(check);
        holds(check);
        ofCellRefusals(check);
        pace(check);
        bridge(check);
        many(check);
        check.end();
    }

    private static void textsThatAreTaken(Check check) {
        String[] texts = {"p0dd", "p1g0g9", "p3d^d^", "p2c9^m0dg5^", "p0" + "c9^".repeat(16), "p1" + "d".repeat(16)};
        int[] cells = {2, 2, 2, 4, 16, 16};
        for (int k = 0; k < texts.length; k++) {
            check.due("river of " + texts[k], Told.river(new PoleBehind(), texts[k]), cells[k]);
        }
    }

    private static void firstFaults(Check check) {
        String sixteen = "p1" + "d".repeat(16);
        String[] texts = {"", "p", "p4", "p/", "P1gg", "q", "p1", "p1g", "p1g:", "p1g/", "p1gg", "p1x", "p1^", "p1g1", "p1g1^",
            "p1d", "p1d^", "p1d1", "p1g12", "p1g1^^", "p1d^^", "p1d^1", "p1g1g", "p1g1 g1", "p1g1g1p", "p1e1", "p1b1", "p1h1", "p1l1",
            "p1n1", sixteen + "d", sixteen + "g", sixteen + "^d", sixteen + "^^", sixteen + "x", "p1G1g1", "p1g1g1]", "p1g1g1_"};
        int[] places = {0, 1, 1, 1, 0, 0, 2, 3, 3, 3, 3, 2, 2, 4, 5,
            3, 4, 3, 4, 5, 4, 4, 5, 4, 6, 2, 2, 2, 2,
            2, 18, 18, 19, 19, 18, 2, 6, 6};
        for (int k = 0; k < texts.length; k++) {
            PoleBehind x = new PoleBehind();
            check.due("river of '" + texts[k] + "'", Told.river(x, texts[k]), -100 - places[k]);
            check.due("fault()", x.fault(), 0);
            check.due("many(0)", x.many(0), 0);
        }
    }

    private static void textsOfEachLane(Check check) {
        for (int lane = 0; lane <= 2; lane++) {
            PoleBehind x = new PoleBehind();
            Told.text(x, 2, lane, "p3m4d^");
            check.due("river of lane " + lane, x.river(2, lane, 0, 6), 2);
            check.due("many(1)", x.many(1), 3);
            check.due("ofCell(1, 4)", x.ofCell(1, 4), 1);
        }
        PoleBehind x = new PoleBehind();
        Told.text(x, 0, Told.INTS, "p0dd");
        x.put(0, 3, 100 + 256);
        check.due("a code beyond a byte, an int", x.river(0, 2, 0, 4), -103);
        Told.text(x, 0, Told.BYTES, "p0dd");
        x.put(0, 3, 100 + 256);
        check.due("a code beyond a byte, a byte", x.river(0, 0, 0, 4), 2);
        x.put(0, 0, 112 - 256 + 1);
        check.due("a wrong code, a byte", x.river(0, 0, 0, 4), -100);
        Told.text(x, 0, Told.SHORTS, "p0dd");
        x.put(0, 1, 48 + 65536);
        check.due("a code beyond a short", x.river(0, 1, 0, 4), 2);
        x.put(0, 1, -48);
        check.due("a code below 0", x.river(0, 1, 0, 4), -101);
    }

    private static void partOfASheet(Check check) {
        PoleBehind x = new PoleBehind();
        Told.text(x, 1, Told.SHORTS, "xxp2g1g2^g3m1xx");
        check.due("river(1, 1, 2, 11)", x.river(1, 1, 2, 11), 4);
        check.due("river(1, 1, 2, 8)", x.river(1, 1, 2, 8), -108);
        check.due("river(1, 1, 2, 9)", x.river(1, 1, 2, 9), 3);
        check.due("river(1, 1, 2, 12)", x.river(1, 1, 2, 12), -111);
        check.due("river(1, 1, 1, 12)", x.river(1, 1, 1, 12), -100);
        check.due("river(1, 1, 15, 0)", x.river(1, 1, 15, 0), -100);
    }

    private static void riverRefusals(Check check) {
        PoleBehind x = Told.objectWith("p1g1g1");
        check.due("river(-1, 3, -1, -1)", x.river(-1, 3, -1, -1), UNKNOWN);
        check.due("river(4, 3, -1, -1)", x.river(4, 3, -1, -1), UNKNOWN);
        check.due("river(1, 3, -1, -1)", x.river(1, 3, -1, -1), OUTSIDE);
        check.due("river(1, -1, -1, -1)", x.river(1, -1, -1, -1), OUTSIDE);
        check.due("fault()", x.fault(), 0);
        check.due("nothing is no cast", x.river(1, 2, -1, -1), -11);
        check.due("fault()", x.fault(), 1);
        check.due("cast before size", x.river(0, 1, -1, -1), -12);
        check.due("fault()", x.fault(), 2);
        check.due("size before index", x.river(0, 0, -1, -1), -14);
        check.due("fault()", x.fault(), 4);
        check.due("size of the least", x.river(0, 0, 0, Integer.MIN_VALUE), -14);
        indexFaults(check, x);
        check.due("many(0)", x.many(0), 2);
    }

    private static void indexFaults(Check check, PoleBehind x) {
        check.due("river(0, 0, -1, 0)", x.river(0, 0, -1, 0), -13);
        check.due("fault()", x.fault(), 3);
        check.due("river(0, 0, 7, 0)", x.river(0, 0, 7, 0), -13);
        check.due("river(0, 0, 6, 0)", x.river(0, 0, 6, 0), -100);
        check.due("river(0, 0, 6, 1)", x.river(0, 0, 6, 1), -13);
        check.due("river(0, 0, 0, 7)", x.river(0, 0, 0, 7), -13);
        check.due("river(0, 0, 1, 6)", x.river(0, 0, 1, 6), -13);
        check.due("river(0, 0, -1, 6)", x.river(0, 0, -1, 6), -13);
        check.due("of the most cells", x.river(0, 0, 3, Integer.MAX_VALUE), -13);
        check.due("from the most on", x.river(0, 0, Integer.MAX_VALUE, Integer.MAX_VALUE), -13);
        check.due("from the least on", x.river(0, 0, Integer.MIN_VALUE, 0), -13);
    }

    private static void refusedTextChangesNothing(Check check) {
        PoleBehind x = Told.objectWith("p2c3^dm1");
        x.reading(1, 2);
        check.due("river of a wrong text", Told.river(x, "p1g9g9g9g9x"), -110);
        check.due("river of a short text", Told.river(x, "p1g9^"), -105);
        check.due("many(0)", x.many(0), 3);
        check.due("many(1)", x.many(1), 2);
        check.due("many(2)", x.many(2), 1);
        check.due("many(3)", x.many(3), 1);
        check.due("ofCell(0, 0)", x.ofCell(0, 0), 2);
        check.due("ofCell(0, 1)", x.ofCell(0, 1), 3);
        check.due("ofCell(0, 4)", x.ofCell(0, 4), 1);
        check.due("ofCell(1, 3)", x.ofCell(1, 3), 1);
        check.due("ofCell(2, 0)", x.ofCell(2, 0), 1);
    }

    private static void takenTextMakesAllAnew(Check check) {
        PoleBehind x = Told.objectWith("p3c3^d^m1^c1^");
        x.reading(1, 2);
        x.reading(2, 2);
        x.tell(0);
        int left = x.trace();
        Told.text(x, 2, Told.INTS, "ab");
        check.due("river", Told.river(x, "p0g1m2d"), 3);
        check.due("many(0)", x.many(0), 3);
        check.due("many(1)", x.many(1), 0);
        check.due("many(2)", x.many(2), 0);
        check.due("many(3)", x.many(3), 0);
        check.due("ways(2, -1), no reading is left", x.ways(2, -1), 16);
        check.due("trace()", x.trace(), left);
        check.due("cell(2, 1, 2)", x.cell(2, 1, 2), 'b');
        int[][] due = {{0, 1, 1, 0, 0}, {1, 2, 3, 0, 0}, {0, 0, 0, 1, 0}};
        for (int c = 0; c < 3; c++) {
            for (int what = 0; what < 5; what++) {
                check.due("ofCell(" + c + ", " + what + ")", x.ofCell(c, what), due[c][what]);
            }
        }
    }

    /** That nothing of an earlier river or of a refused text is left, however many there were. */
    private static void manyRiversOfOneObject(Check check) {
        PoleBehind x = new PoleBehind();
        for (int round = 0; round < 4; round++) {
            check.due("river", Told.river(x, "p3c9^c9^m9^c9^"), 4);
            check.due("many(2)", x.many(2), 4);
            check.due("river that ends too soon", Told.river(x, "p2c8^d^m8^c8^c8^c"), -117);
            check.due("river, a smaller one", Told.river(x, "p0ddd"), 3);
            check.due("many(0)", x.many(0), 3);
            check.due("many(1)", x.many(1), 0);
            check.due("many(2)", x.many(2), 0);
            for (int c = 0; c < 3; c++) {
                check.due("ofCell(" + c + ", 0)", x.ofCell(c, 0), 0);
                check.due("ofCell(" + c + ", 1)", x.ofCell(c, 1), 0);
                check.due("ofCell(" + c + ", 3)", x.ofCell(c, 3), 1);
            }
            x.bridge(1, true);
            check.due("river", Told.river(x, "p1g0g0"), 2);
            check.due("ofCell(1, 1)", x.ofCell(1, 1), 0);
            check.due("ofCell(1, 4)", x.ofCell(1, 4), 0);
        }
    }

    private static void holds(Check check) {
        int[][] due = {{0, 1, 2, 3, 4, 5, 6, 7, 8, 9}, {1, 2, 3, 4, 5, 6, 7, 8, 9, 9}, {2, 4, 6, 8, 9, 9, 9, 9, 9, 9}};
        for (int kind = 0; kind <= 2; kind++) {
            for (int mud = 0; mud <= 9; mud++) {
                PoleBehind x = Told.objectWith("p1d" + "gmc".charAt(kind) + mud);
                check.due("kind of kind " + kind, x.ofCell(1, 0), kind);
                check.due("mud of mud " + mud, x.ofCell(1, 1), mud);
                check.due("holds of kind " + kind + ", mud " + mud, x.ofCell(1, 2), due[kind][mud]);
                check.due("deep", x.ofCell(1, 3), 0);
            }
        }
        PoleBehind x = Told.objectWith("p1d^c9");
        check.due("holds of a deep one", x.ofCell(0, 2), 0);
        check.due("bridge over a deep one", x.ofCell(0, 4), 1);
    }

    private static void ofCellRefusals(Check check) {
        PoleBehind x = Told.objectWith("p1g1g1");
        check.due("ofCell(-1, 9)", x.ofCell(-1, 9), UNKNOWN);
        check.due("ofCell(2, 9)", x.ofCell(2, 9), UNKNOWN);
        check.due("ofCell(15, 0)", x.ofCell(15, 0), UNKNOWN);
        check.due("ofCell(16, 0)", x.ofCell(16, 0), UNKNOWN);
        check.due("ofCell(1, -1)", x.ofCell(1, -1), OUTSIDE);
        check.due("ofCell(1, 5)", x.ofCell(1, 5), OUTSIDE);
    }

    private static void pace(Check check) {
        PoleBehind x = new PoleBehind();
        check.due("pace(4), no river", x.pace(4), OUTSIDE);
        check.due("pace(3), no river", x.pace(3), STATE);
        Told.river(x, "p1g1g1g1g1g1g1");
        x.reading(1, 1);
        check.due("pace(3)", x.pace(3), 1);
        check.due("pace(-1)", x.pace(-1), OUTSIDE);
        check.due("pace(4)", x.pace(4), OUTSIDE);
        check.due("many(1)", x.many(1), 3);
        check.due("soonest()", x.soonest(), 2);
        check.due("many(3)", x.many(3), 1);
        check.due("pace(0)", x.pace(0), 3);
        check.due("pace(0)", x.pace(0), 0);
        check.due("soonest(), from no pace", x.soonest(), 3);
    }

    private static void bridge(Check check) {
        PoleBehind x = Told.objectWith("p1g1g1d^g1");
        x.reading(1, 1);
        check.due("bridge(-1, true)", x.bridge(-1, true), UNKNOWN);
        check.due("bridge(4, true)", x.bridge(4, true), UNKNOWN);
        check.due("bridge(2, true)", x.bridge(2, true), 0);
        check.due("bridge(1, false)", x.bridge(1, false), 0);
        check.due("many(2)", x.many(2), 1);
        check.due("bridge(1, true)", x.bridge(1, true), 1);
        check.due("ofCell(1, 4)", x.ofCell(1, 4), 1);
        check.due("many(2)", x.many(2), 2);
        check.due("bridge(2, false)", x.bridge(2, false), 1);
        check.due("ofCell(2, 4)", x.ofCell(2, 4), 0);
        check.due("many(2)", x.many(2), 1);
        check.due("many(3)", x.many(3), 1);
        check.due("soonest()", x.soonest(), 2);
    }

    private static void many(Check check) {
        PoleBehind x = Told.objectWith("p2g1^g1d^g1");
        x.reading(1, 1);
        x.reading(1, 1);
        x.reading(1, 1);
        check.due("many(0)", x.many(0), 4);
        check.due("many(1)", x.many(1), 2);
        check.due("many(2)", x.many(2), 2);
        check.due("many(3)", x.many(3), 3);
        check.due("many(-1)", x.many(-1), OUTSIDE);
        check.due("many(4)", x.many(4), OUTSIDE);
    }
}
