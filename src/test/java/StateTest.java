import java.util.List;
import java.util.function.Supplier;
import java.util.function.ToIntFunction;

/**
 * What calls change and what they leave: a call that asks changes nothing, and a change that is taken back
 * leaves nothing behind. Each case is a function named after its promise.
 */
public final class StateTest {
    public static void main(String[] args) {
        Due.cases(StateTest.class);
        Due.end();
    }

    /** The floors that are asked: half full, full, with a slot that is closed in, and with nothing right. */
    private static List<Supplier<ShopsOnFloor>> floors() {
        return List.of(Floors::some, Floors::full, StateTest::closedIn, StateTest::nothingRight);
    }

    private static ShopsOnFloor closedIn() {
        ShopsOnFloor s = Floors.closedIn(3);
        s.load(0, 0, 1, 4);
        s.load(1, 1, 2, 4);
        s.load(1, 0, 1, 0);
        s.put(Floors.told(3, 0, 1));
        return s;
    }

    private static ShopsOnFloor nothingRight() {
        ShopsOnFloor s = Floors.weighed(5, 9, 1, 4);
        s.load(2, 0, 2, 8);
        s.wish(1, 0, true, 0);
        s.put(Floors.told(4, 2, 0));
        return s;
    }

    private static void asks(String call, ToIntFunction<ShopsOnFloor> ask) {
        for (Supplier<ShopsOnFloor> make : floors()) {
            Refused.on(make, call, ask, ask.applyAsInt(make.get()));
        }
    }

    /** Both calls, one behind the other, answer as due, and leave the object as it was. */
    private static void thereAndBack(Supplier<ShopsOnFloor> make, ToIntFunction<ShopsOnFloor> there, int dueThere,
            ToIntFunction<ShopsOnFloor> back, int dueBack) {
        ShopsOnFloor s = make.get();
        List<Integer> before = View.of(s);
        Due.is("there", there.applyAsInt(s), dueThere);
        Due.is("and back", back.applyAsInt(s), dueBack);
        Due.same("what shows behind both", View.of(s), before);
        Due.same("what shows behind both, and without", View.inDepth(s), View.inDepth(make.get()));
    }

    static void promise02_columnThereAndBack() {
        thereAndBack(Floors::some, s -> s.column(1, 1, true), 1, s -> s.column(1, 1, false), 1);
        thereAndBack(Floors::full, s -> s.column(4, 3, true), 1, s -> s.column(4, 3, false), 1);
        thereAndBack(Floors::full, s -> s.column(3, 2, false), 1, s -> s.column(3, 2, true), 1);
        thereAndBack(StateTest::closedIn, s -> s.column(1, 0, false), 1, s -> s.column(1, 0, true), 1);
    }

    static void promise02_columnOnAnExitThereAndBack() {
        thereAndBack(Floors::full, s -> s.column(5, 3, false), 1, s -> s.exit(5, 3, true), 0);
        thereAndBack(Floors::full, s -> s.column(0, 5, true) + s.column(0, 5, false), 2, s -> s.exit(0, 5, true), 0);
    }

    static void promise04_exitThereAndBack() {
        thereAndBack(Floors::some, s -> s.exit(0, 1, true), 0, s -> s.exit(0, 1, false), 1);
        thereAndBack(Floors::full, s -> s.exit(5, 3, false), 1, s -> s.exit(5, 3, true), 0);
        thereAndBack(Floors::full, s -> s.exit(0, 5, true), 1, s -> s.exit(3, 5, false), 0);
    }

    static void promise05_farChangesNothing() {
        asks("far(0, 3)", s -> s.far(0, 3));
        asks("far(2, 2)", s -> s.far(2, 2));
    }

    static void promise06_outChangesNothing() {
        asks("out(0)", s -> s.out(0));
        asks("out(3)", s -> s.out(3));
    }

    static void promise07_boundThereAndBack() {
        thereAndBack(Floors::some, s -> s.bound(0), 30, s -> s.bound(30), 0);
        thereAndBack(Floors::full, s -> s.bound(41), 6, s -> s.bound(6), 41);
        thereAndBack(StateTest::closedIn, s -> s.bound(40), 41, s -> s.bound(41), 40);
    }

    static void promise09_loadThereAndBack() {
        thereAndBack(Floors::some, s -> s.load(0, 0, 1, 99), 5, s -> s.load(0, 0, 1, 5), 99);
        thereAndBack(Floors::some, s -> s.load(2, 0, 1, 1), 0, s -> s.load(2, 0, 1, 0), 1);
        for (int year = 0; year < 4; year++) {
            int one = year;
            int was = Floors.full().load(year, 4, 1, 0);
            thereAndBack(Floors::full, s -> s.load(one, 4, 1, 77), was, s -> s.load(one, 4, 1, was), 77);
        }
        thereAndBack(StateTest::closedIn, s -> s.load(0, 0, 1, 0), 4, s -> s.load(0, 0, 1, 4), 0);
    }

    static void promise10_weightThereAndBack() {
        thereAndBack(Floors::some, s -> s.weight(1, 1), 7, s -> s.weight(1, 7), 1);
        thereAndBack(Floors::full, s -> s.weight(2, 1), 50, s -> s.weight(2, 50), 1);
    }

    static void promise11_wishThereAndBack() {
        thereAndBack(Floors::some, s -> s.wish(1, 0, true, 0), 1, s -> s.unwish(1), 1);
        thereAndBack(StateTest::closedIn, s -> s.wish(0, 2, false, 20), 0, s -> s.unwish(0), 1);
    }

    static void promise12_unwishThereAndBack() {
        thereAndBack(Floors::full, s -> s.unwish(5), 1, s -> s.wish(2, 0, false, 0), 5);
        thereAndBack(StateTest::nothingRight, s -> s.unwish(0), 1, s -> s.wish(1, 0, true, 0), 0);
    }

    static void promise13_putThereAndBack() {
        thereAndBack(Floors::some, s -> s.put(2), 1, s -> s.put(Floors.told(3, 1)), 1);
        thereAndBack(Floors::full, s -> s.put(7465), 1, s -> s.put(Floors.told(1, 4, 2, 5, 0)), 1);
    }

    static void promise14_placesChangesNothing() {
        asks("places()", s -> s.places());
    }

    static void promise15_costChangesNothing() {
        asks("cost(0)", s -> s.cost(0));
        asks("cost(3)", s -> s.cost(3));
    }

    static void promise16_bestChangesNothing() {
        asks("best(0)", s -> s.best(0));
        asks("best(2)", s -> s.best(2));
    }

    static void promise17_manyChangesNothing() {
        asks("many(0)", s -> s.many(0));
        asks("many(2)", s -> s.many(2));
    }

    static void promise18_takeThereAndBack() {
        int cost = Floors.full().best(1);
        thereAndBack(Floors::full, s -> s.take(1), cost, s -> s.put(Floors.told(1, 4, 2, 5, 0)), 1);
    }

    static void promise19_floorChangesNothing() {
        asks("floor(0)", s -> s.floor(0));
        asks("floor(2)", s -> s.floor(2));
    }

    static void promise20_settledChangesNothing() {
        asks("settled(0)", s -> s.settled(0));
        asks("settled(2)", s -> s.settled(2));
    }

    static void promise21_climbThereAndBack() {
        int changes = Floors.full().climb(0);
        Due.is("there is something to climb", changes > 0 ? 1 : 0, 1);
        thereAndBack(Floors::full, s -> s.climb(0), changes, s -> s.put(Floors.told(1, 4, 2, 5, 0)), 1);
    }

    static void promise22_moveChangesNothing() {
        asks("move to other places", s -> s.move(s.planned(2, 1)));
        asks("move to where they are", s -> s.move(s.places()));
    }

    static void promise23_stepChangesNothing() {
        asks("the first step", s -> s.step(s.planned(2, 1), 0));
        asks("a later step", s -> s.step(s.planned(2, 1), 2));
    }

    static void promise24_planChangesNothing() {
        for (int n = 1; n <= 4; n++) {
            int years = n;
            asks("plan(" + n + ")", s -> s.plan(years));
        }
    }

    static void promise25_plannedChangesNothing() {
        for (int n = 1; n <= 4; n++) {
            int years = n;
            asks("planned(" + n + ", " + (n - 1) + ")", s -> s.planned(years, years - 1));
        }
    }

    static void promise26_countChangesNothing() {
        for (int what = 0; what <= 4; what++) {
            int one = what;
            asks("count(" + what + ")", s -> s.count(one));
        }
    }
}
