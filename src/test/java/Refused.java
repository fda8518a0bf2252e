import java.util.List;
import java.util.function.Supplier;
import java.util.function.ToIntFunction;

/** A call that is refused, or that only asks: what it answers, and that nothing shows that it was made. */
final class Refused {
    /** An object is promised for so many calls. */
    private static final int MOST_CALLS = 512;
    /** At most so many calls make a floor to begin with. */
    private static final int CALLS_OF_FLOOR = 70;

    private Refused() {
    }

    static void on(Supplier<ShopsOnFloor> make, String call, ToIntFunction<ShopsOnFloor> refused, int due) {
        ShopsOnFloor s = make.get();
        List<Integer> before = View.of(s);
        Due.is(call, refused.applyAsInt(s), due);
        List<Integer> behind = View.of(s);
        Due.same("what shows behind " + call, behind, before);
        List<Integer> inDepth = View.inDepth(s);
        Due.same("what shows behind " + call + ", and without it", inDepth, View.inDepth(make.get()));
        int calls = CALLS_OF_FLOOR + before.size() + 1 + behind.size() + inDepth.size();
        Due.is("few enough calls, " + calls, calls <= MOST_CALLS ? 1 : 0, 1);
    }

    /** On an empty floor, on one that is neither empty nor full, and on a full one. */
    static void everywhere(String call, ToIntFunction<ShopsOnFloor> refused, int due) {
        on(ShopsOnFloor::new, "empty: " + call, refused, due);
        on(Floors::some, "some: " + call, refused, due);
        on(Floors::full, "full: " + call, refused, due);
    }
}
