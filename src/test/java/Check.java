/** Counts the answers of one test and prints those that are not due. */
final class Check {
    private static final int MOST_PRINTED = 40;

    private final String name;
    private int asked;
    private int wrong;

    Check(String name) {
        this.name = name;
    }

    void due(String call, long got, long want) {
        asked++;
        if (got != want) {
            say(call + " answered " + got + ", due is " + want);
        }
    }

    void holds(String what, boolean is) {
        asked++;
        if (!is) {
            say("not so: " + what);
        }
    }

    private void say(String line) {
        wrong++;
        if (wrong <= MOST_PRINTED) {
            System.out.println("  " + line);
        }
    }

    int wrong() {
        return wrong;
    }

    /** A test class ends with this: the exit code tells .ci/run how it went. */
    void end() {
        System.out.println(name + ": " + asked + " checks, " + wrong + " wrong");
        if (wrong != 0) {
            System.exit(1);
        }
    }
}
