import java.util.function.Supplier;
import java.util.function.ToIntFunction;

/** The boundary cases of promises 22 to 26, each in a function named after its promise and the case. */
public final class EdgesOfPlansTest {
    private static final int NONE = -1, BAD = -2;

    public static void main(String[] args) {
        Due.cases(EdgesOfPlansTest.class);
        Due.end();
    }

    private static int told(int... slots) {
        return Floors.told(slots);
    }

    /** Every step of the least move, what it costs, and that there are no more steps. */
    private static void moveIs(ShopsOnFloor s, int aim, int cost, int... steps) {
        Due.is("move(" + aim + ")", s.move(aim), cost);
        for (int i = 0; i < steps.length; i++) {
            Due.is("step(" + aim + ", " + i + ")", s.step(aim, i), steps[i]);
        }
        Due.is("step(" + aim + ", " + steps.length + ")", s.step(aim, steps.length), NONE);
        Due.is("step(" + aim + ", the greatest)", s.step(aim, Integer.MAX_VALUE), NONE);
    }

    static void promise22_moveWithoutShops() {
        Due.is("no slots", new ShopsOnFloor().move(0), 0);
        Due.is("six slots", Floors.row(6, 0).move(0), 0);
        Refused.on(() -> Floors.row(6, 0), "move(1)", s -> s.move(1), BAD);
    }

    static void promise22_moveAimOutOfAllBounds() {
        for (int aim : Floors.beside(0, 7775)) {
            Refused.everywhere("move(" + aim + ")", s -> s.move(aim), BAD);
        }
    }

    static void promise22_moveAimTheLeastAndTheGreatest() {
        Due.is("to the least", Floors.full().move(310) > 0 ? 1 : 0, 1);
        Due.is("to the greatest", Floors.full().move(7465) > 0 ? 1 : 0, 1);
        Refused.on(Floors::full, "move(309)", s -> s.move(309), BAD);
        Refused.on(Floors::full, "move(7466)", s -> s.move(7466), BAD);
    }

    static void promise22_moveAimOfNoPlaces() {
        Refused.on(Floors::some, "two on slot 0", s -> s.move(told(0, 0)), BAD);
        Refused.on(Floors::some, "shop 1 on no slot", s -> s.move(told(0, 4)), BAD);
        Refused.on(Floors::some, "shop 0 on no slot", s -> s.move(told(5, 0)), BAD);
        Refused.on(Floors::some, "a shop too many", s -> s.move(told(0, 1, 2)), BAD);
    }

    static void promise22_moveToWhereTheyAre() {
        moveIs(Floors.row(6, 5), told(0, 1, 2, 3, 4), 0);
        moveIs(Floors.row(5, 5), told(0, 1, 2, 3, 4), 0);
        moveIs(Floors.full(), told(1, 4, 2, 5, 0), 0);
    }

    static void promise22_moveWithoutAFreeSlot() {
        for (int both = 2; both <= 5; both++) {
            int[] slots = new int[both];
            for (int shop = 0; shop < both; shop++) {
                slots[shop] = (shop + 1) % both;
            }
            moveIs(Floors.row(both, both), told(slots), NONE);
        }
    }

    static void promise22_moveBadIsAheadOfNone() {
        Due.is("no free slot, and no places", Floors.row(3, 3).move(told(0, 1, 1)), BAD);
        Due.is("no free slot, and no places", Floors.row(3, 3).step(told(0, 1, 3), 0), BAD);
    }

    static void promise22_moveTheDearestOfAll() {
        Due.is("a ring of five", Floors.weighed(6, 50, 50, 50, 50, 50).move(told(1, 2, 3, 4, 0)), 300);
        Due.is("a ring of two and one of three",
                Floors.weighed(6, 50, 50, 50, 50, 50).move(told(1, 0, 3, 4, 2)), 350);
    }

    static void promise22_moveByTheOnlyFreeSlot() {
        moveIs(Floors.weighed(3, 5, 3), told(1, 0), 11, 12, 1, 10);
    }

    static void promise22_moveAsksForNoWaysAndNothingRight() {
        ShopsOnFloor s = Floors.closedIn(2);
        s.wish(0, 1, true, 0);
        s.load(0, 0, 1, 99);
        s.bound(0);
        moveIs(s, told(2, 3), 2, 2, 13);
    }

    static void promise22_moveLeavesThePlaces() {
        ShopsOnFloor s = Floors.full();
        s.move(310);
        s.step(7465, 3);
        Due.is("places", s.places(), told(1, 4, 2, 5, 0));
    }

    static void promise23_stepAimOutOfAllBounds() {
        for (int aim : Floors.beside(0, 7775)) {
            Refused.everywhere("step(" + aim + ", 0)", s -> s.step(aim, 0), BAD);
        }
    }

    static void promise23_stepBelow() {
        for (int i : new int[] {-1, -2, Integer.MIN_VALUE}) {
            Refused.on(ShopsOnFloor::new, "step(0, " + i + ")", s -> s.step(0, i), BAD);
            Refused.on(Floors::some, "step(" + told(0, 1) + ", " + i + ")", s -> s.step(told(0, 1), i), BAD);
            Refused.on(Floors::full, "step(310, " + i + ")", s -> s.step(310, i), BAD);
        }
    }

    static void promise23_stepBelowAndNoPlaces() {
        Refused.on(Floors::some, "step(0, -1)", s -> s.step(0, -1), BAD);
        Refused.on(Floors::some, "step(0, the greatest)", s -> s.step(0, Integer.MAX_VALUE), BAD);
    }

    static void promise23_stepBelowIsBadThoughThereIsNoMove() {
        Due.is("no free slot", Floors.row(2, 2).step(told(1, 0), -1), BAD);
        Due.is("where they are", Floors.row(2, 2).step(told(0, 1), -1), BAD);
    }

    static void promise23_stepBehindTheLast() {
        moveIs(Floors.row(6, 1), 5, 1, 5);
        moveIs(Floors.row(6, 1), 0, 0);
        moveIs(new ShopsOnFloor(), 0, 0);
    }

    static void promise23_stepsOfTheLongestMove() {
        moveIs(Floors.row(6, 5), told(1, 0, 3, 4, 2), 7, 5, 10, 1, 25, 42, 34, 23);
    }

    static void promise23_stepFirstByShopThenBySlot() {
        moveIs(Floors.row(4, 2), told(1, 0), 3, 2, 10, 1);
        moveIs(Floors.row(6, 3), told(3, 4, 5), 3, 3, 14, 25);
    }

    static void promise23_stepTheLighterGoesAside() {
        moveIs(Floors.weighed(4, 2, 1), told(1, 0), 4, 12, 1, 10);
    }

    static void promise24_planYearsOutOfBounds() {
        for (int n : Floors.beside(1, 4)) {
            Refused.everywhere("plan(" + n + ")", s -> s.plan(n), BAD);
        }
    }

    static void promise24_planWithoutShops() {
        for (int n = 1; n <= 4; n++) {
            Due.is("no slots", new ShopsOnFloor().plan(n), 0);
            Due.is("six slots", Floors.row(6, 0).plan(n), 0);
        }
    }

    static void promise24_planOfOneYearIsTheBestOfIt() {
        Due.is("plan", Floors.full().plan(1), Floors.full().best(0));
        ShopsOnFloor s = Floors.full();
        s.take(0);
        Due.is("its places", s.planned(1, 0), s.places());
    }

    static void promise24_planWithoutRightPlaces() {
        ShopsOnFloor s = Floors.row(6, 2);
        s.wish(0, 1, true, 0);
        for (int n = 1; n <= 4; n++) {
            Due.is("plan", s.plan(n), NONE);
        }
        Due.is("BAD is ahead of NONE", s.plan(0), BAD);
        Due.is("BAD is ahead of NONE", s.plan(5), BAD);
    }

    static void promise24_planOneYearWithoutRightPlaces() {
        for (int wrong = 0; wrong < 4; wrong++) {
            ShopsOnFloor s = Floors.snake(0, 5, 9);
            s.load(wrong, 0, 1, 1);
            s.load(wrong, 1, 2, 1);
            s.load(wrong, 2, 0, 1);
            for (int n = 1; n <= 4; n++) {
                Due.is("year " + wrong + " has none: plan(" + n + ")", s.plan(n), n > wrong ? NONE : 0);
                Due.is("planned(" + n + ", 0)", s.planned(n, 0), n > wrong ? NONE : told(0, 1, 2));
                Due.is("planned the last", s.planned(n, n - 1), n > wrong ? NONE : told(0, 1, 2));
            }
        }
    }

    static void promise24_planTheDearestThereIs() {
        ShopsOnFloor s = Floors.snake(0, 23);
        for (int year = 0; year < 4; year++) {
            s.load(year, 0, 1, 99);
            s.load(year, 1, 0, 99);
        }
        for (int n = 1; n <= 4; n++) {
            Due.is("plan", s.plan(n), n * 2 * 99 * 23);
        }
    }

    static void promise24_planIsNotAskedForThePlacesAtHand() {
        ShopsOnFloor s = Floors.weighed(6, 50, 50);
        s.put(told(5, 3));
        Due.is("plan", s.plan(4), 0);
        Due.is("planned", s.planned(4, 0), told(0, 1));
        Due.is("places", s.places(), told(5, 3));
    }

    static void promise24_planWithoutFreeSlotsMayExchange() {
        ShopsOnFloor s = Floors.row(3, 3);
        s.load(0, 0, 1, 9);
        s.load(0, 1, 2, 9);
        s.load(1, 0, 1, 9);
        s.load(1, 0, 2, 9);
        Due.is("plan", s.plan(2), 18 + 2 + 18);
        Due.is("shop 1 between", s.planned(2, 0), told(0, 1, 2));
        Due.is("shop 0 between", s.planned(2, 1), told(1, 0, 2));
        Due.is("though no move goes there", s.move(told(1, 0, 2)), NONE);
    }

    static void promise24_planOfOneShopStays() {
        for (int slot = 0; slot < 6; slot++) {
            ShopsOnFloor s = Floors.weighed(6, 50);
            s.exit(slot, 1, true);
            s.bound(1);
            Due.is("plan", s.plan(4), 0);
            Due.is("planned", s.planned(4, 3), slot);
        }
    }

    /** Fars are 20, 3 and none: two shops go and cost 3 + 6 with them, or all stay and cost 20 + 6. */
    static void promise24_planGoesAsLongAsStayingIsDearer() {
        for (int weight = 1; weight <= 50; weight++) {
            ShopsOnFloor s = Floors.snake(0, 20, 23);
            for (int shop = 0; shop < 3; shop++) {
                s.weight(shop, weight);
            }
            s.load(0, 1, 2, 1);
            s.load(1, 0, 2, 2);
            boolean isGoing = weight <= 8;
            Due.is("weight " + weight, s.plan(2), isGoing ? 9 + 2 * weight : 26);
            Due.is("year 0", s.planned(2, 0), isGoing ? told(0, 1, 2) : told(2, 0, 1));
            Due.is("year 1", s.planned(2, 1), isGoing ? told(1, 0, 2) : told(2, 0, 1));
        }
    }

    /** The same, whichever of the shops go. */
    static void promise24_planGoesWithAnyTwoShops() {
        for (int stays = 0; stays < 3; stays++) {
            for (int weight = 8; weight <= 9; weight++) {
                ShopsOnFloor s = Floors.snake(0, 20, 23);
                for (int shop = 0; shop < 3; shop++) {
                    s.weight(shop, weight);
                }
                s.load(0, (stays + 1) % 3, stays, 1);
                s.load(1, stays, (stays + 2) % 3, 2);
                Due.is("shop " + stays + " stays, weight " + weight, s.plan(2), weight == 8 ? 25 : 26);
            }
        }
    }

    /** A change between two plans is seen by the second one: as by an object that had no first one. */
    private static void planSees(Supplier<ShopsOnFloor> make, ToIntFunction<ShopsOnFloor> change, int answer) {
        for (int n = 1; n <= 4; n++) {
            ShopsOnFloor s = make.get();
            ShopsOnFloor other = make.get();
            int before = s.plan(n);
            Due.is("the change", change.applyAsInt(s), answer);
            change.applyAsInt(other);
            Due.is("plan(" + n + ") by then", s.plan(n), other.plan(n));
            Due.is("it is another one", s.plan(n) != before ? 1 : 0, 1);
        }
    }

    /** Two shops on the only two slots, 20 apart; one load. */
    private static ShopsOnFloor twoShops() {
        ShopsOnFloor s = Floors.snake(0, 20);
        s.load(0, 0, 1, 3);
        Floors.exitInSnake(s, 10, true);
        s.bound(40);
        s.wish(1, 0, true, 20);
        return s;
    }

    static void promise24_planBehindColumn() {
        planSees(EdgesOfPlansTest::twoShops, s -> s.column(3, 0, true), 1);
    }

    static void promise24_planBehindColumnOff() {
        planSees(EdgesOfPlansTest::twoShops, s -> s.column(0, 1, false), 1);
    }

    static void promise24_planBehindSlot() {
        planSees(EdgesOfPlansTest::twoShops, s -> s.slot(1, 0), 2);
    }

    static void promise24_planBehindExit() {
        planSees(EdgesOfPlansTest::twoShops, s -> Floors.exitInSnake(s, 10, false), 1);
    }

    static void promise24_planBehindTheFirstExit() {
        planSees(() -> {
            ShopsOnFloor s = Floors.closedIn(1);
            s.bound(40);
            return s;
        }, s -> s.exit(4, 5, true), 0);
    }

    static void promise24_planBehindBound() {
        planSees(EdgesOfPlansTest::twoShops, s -> s.bound(9), 40);
    }

    static void promise24_planBehindLoad() {
        planSees(EdgesOfPlansTest::twoShops, s -> s.load(0, 1, 0, 1), 0);
    }

    static void promise24_planBehindWish() {
        planSees(EdgesOfPlansTest::twoShops, s -> s.wish(0, 1, true, 19), 1);
    }

    static void promise24_planBehindUnwish() {
        planSees(() -> {
            ShopsOnFloor s = twoShops();
            s.wish(0, 1, true, 19);
            return s;
        }, s -> s.unwish(1), 1);
    }

    static void promise24_planBehindShop() {
        planSees(() -> {
            ShopsOnFloor s = Floors.closedIn(3);
            s.exit(4, 5, true);
            s.bound(40);
            return s;
        }, s -> s.shop(), 3);
    }

    static void promise24_planBehindWeight() {
        ShopsOnFloor s = Floors.snake(0, 20, 23);
        s.load(0, 1, 2, 1);
        s.load(1, 0, 2, 2);
        Due.is("all weigh 1", s.plan(2), 11);
        s.weight(1, 7);
        Due.is("1 and 7", s.plan(2), 17);
    }

    static void promise24_planBehindPut() {
        ShopsOnFloor s = twoShops();
        int before = s.plan(4);
        s.put(told(1, 0));
        Due.is("places at hand are not asked", s.plan(4), before);
        Due.is("nor for the first of several", s.planned(4, 0), told(0, 1));
    }

    static void promise25_plannedYearsOutOfBounds() {
        for (int n : Floors.beside(1, 4)) {
            Refused.everywhere("planned(" + n + ", 0)", s -> s.planned(n, 0), BAD);
            Refused.everywhere("planned(" + n + ", " + (n - 1) + ")", s -> s.planned(n, n - 1), BAD);
        }
    }

    static void promise25_plannedYearOutOfBounds() {
        for (int n = 1; n <= 4; n++) {
            int years = n;
            for (int y : Floors.beside(0, n - 1)) {
                Refused.everywhere("planned(" + n + ", " + y + ")", s -> s.planned(years, y), BAD);
            }
        }
    }

    static void promise25_plannedAtTheBounds() {
        for (int n = 1; n <= 4; n++) {
            ShopsOnFloor s = Floors.row(6, 5);
            Due.is("the first year", s.planned(n, 0), told(0, 1, 2, 3, 4));
            Due.is("the last year", s.planned(n, n - 1), told(0, 1, 2, 3, 4));
        }
    }

    static void promise25_plannedWithoutRightPlaces() {
        ShopsOnFloor s = Floors.row(6, 2);
        s.wish(0, 1, true, 0);
        for (int n = 1; n <= 4; n++) {
            for (int y = 0; y < n; y++) {
                Due.is("planned", s.planned(n, y), NONE);
            }
            Due.is("BAD is ahead of NONE", s.planned(n, n), BAD);
            Due.is("BAD is ahead of NONE", s.planned(n, -1), BAD);
        }
    }

    static void promise25_plannedWithoutShops() {
        for (int n = 1; n <= 4; n++) {
            Due.is("the last year", new ShopsOnFloor().planned(n, n - 1), 0);
            Due.is("no year", new ShopsOnFloor().planned(n, n), BAD);
        }
    }

    static void promise25_plannedOfFewerAndOfMoreYearsInTurn() {
        ShopsOnFloor s = Floors.full();
        ShopsOnFloor other = Floors.full();
        for (int n = 4; n >= 1; n--) {
            Due.is("plan(" + n + ")", s.plan(n), Floors.full().plan(n));
            other.plan(5 - n);
            Due.is("planned(" + n + ", 0) behind another plan", other.planned(n, 0), s.planned(n, 0));
        }
    }

    static void promise26_countOutOfBounds() {
        for (int what : Floors.beside(0, 4)) {
            Refused.everywhere("count(" + what + ")", s -> s.count(what), BAD);
        }
    }

    static void promise26_countOfTheEmptyOne() {
        for (int what = 0; what <= 4; what++) {
            Due.is("count(" + what + ")", new ShopsOnFloor().count(what), 0);
        }
    }

    static void promise26_countOfTheFullOne() {
        ShopsOnFloor s = Floors.full();
        int[] due = {6, 5, 6, 3, 2};
        for (int what = 0; what <= 4; what++) {
            Due.is("count(" + what + ")", s.count(what), due[what]);
        }
    }

    static void promise26_countOfAllCells() {
        ShopsOnFloor columns = new ShopsOnFloor();
        ShopsOnFloor exits = new ShopsOnFloor();
        for (int cell = 0; cell < 36; cell++) {
            columns.column(cell % 6, cell / 6, true);
            exits.exit(cell % 6, cell / 6, true);
        }
        Due.is("columns", columns.count(3), 36);
        Due.is("no exits", columns.count(4), 0);
        Due.is("no columns", exits.count(3), 0);
        Due.is("exits", exits.count(4), 36);
    }
}
