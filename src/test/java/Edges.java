import java.util.function.Supplier;

/** The least and the greatest value that a call allows, and the first on either side that it refuses. */
final class Edges {
    /** A call with one value of which the edges are looked at. */
    interface CallWith {
        long on(Takinghall hall, int value);
    }

    private Edges() {
    }

    /** Each value is told to an object of its own, behind the same beginning. */
    static void hold(Supplier<Story> beginning, int least, int greatest, Class<? extends RuntimeException> due,
            CallWith call) {
        for (int allowed : new int[] {least, greatest}) {
            beginning.get().does(h -> call.on(h, allowed));
        }
        refuse(beginning, due, call, least - 1, greatest + 1, Integer.MIN_VALUE, Integer.MAX_VALUE);
    }

    static void refuse(Supplier<Story> beginning, Class<? extends RuntimeException> due, CallWith call, int... values) {
        Story story = beginning.get();
        for (int value : values) {
            story.refuses(due, h -> call.on(h, value));
        }
    }
}
