/** Texts and plans, told to an object by the sheets that the tests lend it. */
final class Told {
    static final int TEXT_SHEET = 0, PLAN_SHEET = 3;
    static final int BYTES = 0, SHORTS = 1, INTS = 2;
    static final int PUSH = 0, TRAIL = 1, TWIST = 2, PADDLE = 3;

    private Told() {
    }

    static void text(PoleBehind x, int sheet, int lane, String text) {
        x.sheet(sheet, lane, text.length());
        for (int i = 0; i < text.length(); i++) {
            x.put(sheet, i, text.charAt(i));
        }
    }

    static int river(PoleBehind x, String text) {
        text(x, TEXT_SHEET, BYTES, text);
        return x.river(TEXT_SHEET, BYTES, 0, text.length());
    }

    static PoleBehind objectWith(String text) {
        PoleBehind x = new PoleBehind();
        river(x, text);
        return x;
    }

    static void acts(PoleBehind x, int... acts) {
        x.sheet(PLAN_SHEET, INTS, acts.length);
        for (int i = 0; i < acts.length; i++) {
            x.put(PLAN_SHEET, i, acts[i]);
        }
    }

    static int plan(PoleBehind x, int what, int... acts) {
        acts(x, acts);
        return x.plan(PLAN_SHEET, INTS, 0, acts.length, what);
    }

    static long dry(PoleBehind x, int which, int... acts) {
        acts(x, acts);
        return x.dry(PLAN_SHEET, INTS, 0, acts.length, which);
    }

    static long odds(PoleBehind x, int which, int... acts) {
        acts(x, acts);
        return x.odds(PLAN_SHEET, INTS, 0, acts.length, which);
    }

    static int kinds(PoleBehind x, int c, int up, int... acts) {
        acts(x, acts);
        return x.kinds(c, PLAN_SHEET, INTS, 0, acts.length, up);
    }

    static int muds(PoleBehind x, int c, int up, int... acts) {
        acts(x, acts);
        return x.muds(c, PLAN_SHEET, INTS, 0, acts.length, up);
    }
}
