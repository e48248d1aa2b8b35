import java.util.ArrayList;
import java.util.List;
import java.util.function.ToLongFunction;

/** Calls that change nothing (but what fault() tells), one by one on objects made alike. */
final class Still {
    /** In the place of a fault: the call names none, so that fault() tells what it told before. */
    static final int NAMES_NONE = -1;

    private static final int MOST_OF_ONE = 30, SIZE = 4;

    private final Check check;
    private final World world;
    private final PoleBehind[] objects = new PoleBehind[World.SIDES];
    private final List<String> lately = new ArrayList<>();

    Still(Check check, World world) {
        this.check = check;
        this.world = world;
        makeAnew();
    }

    private void makeAnew() {
        for (int side = 0; side < objects.length; side++) {
            objects[side] = world.make();
        }
        lately.clear();
    }

    void due(String told, ToLongFunction<PoleBehind> call, long answer, int fault) {
        lately.add(told);
        for (PoleBehind x : objects) {
            int before = comeToAFault(x, fault);
            check.due(world + ": " + told, call.applyAsLong(x), answer);
            check.due(world + ": fault() behind " + told, x.fault(), fault == NAMES_NONE ? before : fault);
        }
        if (lately.size() == MOST_OF_ONE) {
            end();
        }
    }

    /** Some fault that is not the one that is due, so that one left from before is seen. */
    private int comeToAFault(PoleBehind x, int due) {
        if (due == SIZE) {
            x.put(0, -1, 0);
            return x.fault();
        }
        x.sheet(0, 0, -1);
        return SIZE;
    }

    /** To be called behind the last one, too: what is told of the objects must be as at first. */
    void end() {
        for (int side = 0; side < objects.length; side++) {
            check.holds(world + ", side " + side + " is as it was behind " + String.join("; ", lately),
                world.isAsMade(objects[side], side));
        }
        makeAnew();
    }
}
