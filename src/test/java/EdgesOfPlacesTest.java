/** The boundary cases of promises 13 to 21, each in a function named after its promise and the case. */
public final class EdgesOfPlacesTest {
    private static final int NONE = -1, BAD = -2, NOT = -3;

    public static void main(String[] args) {
        Due.cases(EdgesOfPlacesTest.class);
        Due.end();
    }

    private static int told(int... slots) {
        return Floors.told(slots);
    }

    /** No places are right: side by side is 1, and a wish asks for 0. */
    private static ShopsOnFloor nothingRight() {
        ShopsOnFloor s = Floors.row(6, 3);
        s.load(1, 0, 2, 7);
        s.wish(0, 1, true, 0);
        s.put(told(5, 1, 3));
        return s;
    }

    /** One shop, and but one slot that is near enough to the exit. */
    private static ShopsOnFloor onlyRight(int slot) {
        ShopsOnFloor s = Floors.row(6, 1);
        s.exit(slot, 1, true);
        s.bound(1);
        return s;
    }

    static void promise13_putWithoutShops() {
        Due.is("put(0)", new ShopsOnFloor().put(0), 1);
        Due.is("put(0) with slots", Floors.row(6, 0).put(0), 1);
        for (int told : new int[] {1, -1, 6, 7776, Integer.MIN_VALUE, Integer.MAX_VALUE}) {
            Refused.on(ShopsOnFloor::new, "put(" + told + ")", s -> s.put(told), BAD);
            Refused.on(() -> Floors.row(6, 0), "put(" + told + ") with slots", s -> s.put(told), BAD);
        }
    }

    static void promise13_putOutOfAllBounds() {
        for (int told : Floors.beside(0, 7775)) {
            Refused.everywhere("put(" + told + ")", s -> s.put(told), BAD);
        }
    }

    static void promise13_putTheLeastOfFive() {
        Due.is("the least", Floors.full().put(told(4, 3, 2, 1, 0)), 1);
        Due.is("told", told(4, 3, 2, 1, 0), 310);
        Refused.on(Floors::full, "put(309)", s -> s.put(309), BAD);
    }

    static void promise13_putTheGreatestOfFive() {
        Due.is("the greatest", Floors.full().put(told(1, 2, 3, 4, 5)), 1);
        Due.is("told", told(1, 2, 3, 4, 5), 7465);
        Refused.on(Floors::full, "put(7466)", s -> s.put(7466), BAD);
        Refused.on(Floors::full, "put(7775)", s -> s.put(7775), BAD);
    }

    static void promise13_putTwoOnOneSlot() {
        Refused.on(Floors::full, "put of two on slot 0", s -> s.put(told(0, 0, 1, 2, 3)), BAD);
        Refused.on(Floors::full, "put of the first and the last on slot 5", s -> s.put(told(5, 0, 1, 2, 5)), BAD);
        Refused.on(Floors::some, "put(0)", s -> s.put(0), BAD);
    }

    static void promise13_putOnNoSlot() {
        for (int slots = 2; slots <= 5; slots++) {
            Due.is("shop 0 on slot " + slots, Floors.row(slots, 2).put(told(slots, 0)), BAD);
            Due.is("shop 1 on slot " + slots, Floors.row(slots, 2).put(told(0, slots)), BAD);
        }
        Refused.on(Floors::some, "put on slot 4", s -> s.put(told(4, 0)), BAD);
        Refused.on(Floors::some, "put on slot 5", s -> s.put(told(0, 5)), BAD);
    }

    static void promise13_putWithAShopTooMany() {
        Refused.on(Floors::some, "put of three shops", s -> s.put(told(0, 1, 2)), BAD);
        Refused.on(Floors::full, "put of six shops", s -> s.put(told(1, 2, 3, 4, 5, 1)), BAD);
    }

    static void promise13_putWithAShopTooFew() {
        Refused.on(Floors::full, "put of four shops, the fifth on slot 0", s -> s.put(told(3, 2, 1, 0)), BAD);
        Due.is("the fifth on slot 0, which is free", Floors.full().put(told(4, 3, 2, 1)), 1);
    }

    static void promise13_putWhereTheyAre() {
        ShopsOnFloor s = Floors.some();
        Due.is("put", s.put(told(3, 1)), 1);
        Due.is("places", s.places(), told(3, 1));
    }

    static void promise13_putPlacesThatAreNotRight() {
        ShopsOnFloor s = nothingRight();
        Due.is("put", s.put(told(0, 1, 2)), 1);
        Due.is("places", s.places(), told(0, 1, 2));
        Due.is("cost", s.cost(1), NONE);
    }

    /** Every number from below 0 to above five shops' places, for all numbers of slots and shops. */
    static void promise13_putOfEveryNumber() {
        for (int slots = 0; slots <= 6; slots++) {
            for (int shops = 0; shops <= Math.min(5, slots); shops++) {
                ShopsOnFloor s = Floors.row(slots, shops);
                for (int told = -300; told < 8100; told++) {
                    s = told % 200 == 0 ? Floors.row(slots, shops) : s;
                    int before = s.places();
                    boolean arePlaces = arePlaces(told, slots, shops);
                    Due.is(slots + " slots, " + shops + " shops: put(" + told + ")", s.put(told), arePlaces ? 1 : BAD);
                    Due.is("places behind put(" + told + ")", s.places(), arePlaces ? told : before);
                }
            }
        }
    }

    private static boolean arePlaces(int told, int slots, int shops) {
        boolean[] taken = new boolean[6];
        int rest = told;
        for (int shop = 0; shop < shops && rest >= 0; shop++) {
            int slot = rest % 6;
            if (slot >= slots || taken[slot]) {
                return false;
            }
            taken[slot] = true;
            rest /= 6;
        }
        return rest == 0;
    }

    static void promise14_placesWithoutShops() {
        Due.is("no slots", new ShopsOnFloor().places(), 0);
        Due.is("six slots", Floors.row(6, 0).places(), 0);
    }

    static void promise14_placesOfOneShop() {
        ShopsOnFloor s = Floors.row(6, 1);
        for (int slot = 5; slot >= 0; slot--) {
            s.put(slot);
            Due.is("places", s.places(), slot);
        }
    }

    static void promise14_placesOfFiveShops() {
        ShopsOnFloor s = Floors.row(6, 5);
        Due.is("the first", s.places(), told(0, 1, 2, 3, 4));
        s.put(7465);
        Due.is("the greatest number", s.places(), 7465);
    }

    static void promise15_costYearOutOfBounds() {
        for (int year : Floors.beside(0, 3)) {
            Refused.everywhere("cost(" + year + ")", s -> s.cost(year), BAD);
        }
    }

    static void promise15_costAtTheBoundsOfYears() {
        ShopsOnFloor s = Floors.row(2, 2);
        s.load(0, 0, 1, 1);
        s.load(3, 1, 0, 4);
        Due.is("year 0", s.cost(0), 1);
        Due.is("year 1", s.cost(1), 0);
        Due.is("year 2", s.cost(2), 0);
        Due.is("year 3", s.cost(3), 4);
    }

    static void promise15_costWithoutLoads() {
        Due.is("no shops", new ShopsOnFloor().cost(0), 0);
        Due.is("one shop", Floors.row(6, 1).cost(0), 0);
        Due.is("five shops", Floors.row(6, 5).cost(3), 0);
    }

    static void promise15_costOfALoadWithoutAWay() {
        ShopsOnFloor s = Floors.closedIn(2);
        s.load(0, 0, 1, 1);
        s.load(1, 1, 0, 1);
        Due.is("from the closed in", s.cost(0), NONE);
        Due.is("to the closed in", s.cost(1), NONE);
        Due.is("no load in the year", s.cost(2), 0);
        s.put(told(1, 2));
        Due.is("with a way", s.cost(0), 2);
    }

    static void promise15_costOfAWishThatIsNotMet() {
        Due.is("not right in any year", nothingRight().cost(0), NONE);
        Due.is("not right in any year", nothingRight().cost(3), NONE);
    }

    static void promise15_costBehindTheBound() {
        for (int slot = 0; slot < 6; slot++) {
            ShopsOnFloor s = onlyRight(3);
            s.put(slot);
            Due.is("on slot " + slot, s.cost(0), slot == 3 ? 0 : NONE);
        }
    }

    static void promise15_costBadIsAheadOfNone() {
        Due.is("cost(4)", nothingRight().cost(4), BAD);
        Due.is("cost(-1)", nothingRight().cost(-1), BAD);
    }

    static void promise15_costOfTheGreatestLoadsOnTheLongestWay() {
        ShopsOnFloor s = Floors.snake(0, 23);
        s.load(0, 0, 1, 99);
        Due.is("one way", s.cost(0), 99 * 23);
        s.load(0, 1, 0, 99);
        Due.is("both ways", s.cost(0), 2 * 99 * 23);
    }

    static void promise16_bestYearOutOfBounds() {
        for (int year : Floors.beside(0, 3)) {
            Refused.everywhere("best(" + year + ")", s -> s.best(year), BAD);
        }
    }

    static void promise16_bestOfNoneThatAreRight() {
        for (int year = 0; year < 4; year++) {
            Due.is("best", nothingRight().best(year), NONE);
        }
        Due.is("BAD is ahead of NONE", nothingRight().best(4), BAD);
        Due.is("no way out", onlyRight(3).best(0), 0);
    }

    static void promise16_bestWithoutShops() {
        ShopsOnFloor s = Floors.row(6, 0);
        s.bound(0);
        Due.is("nobody asks for an exit", s.best(0), 0);
    }

    static void promise16_bestNoneInOneYearAlone() {
        ShopsOnFloor s = Floors.snake(0, 5, 9);
        s.load(2, 0, 1, 1);
        s.load(2, 1, 2, 1);
        s.load(2, 2, 0, 1);
        Due.is("three ways are asked, two there are", s.best(2), NONE);
        Due.is("another year", s.best(1), 0);
    }

    static void promise16_bestWithoutFreeSlots() {
        ShopsOnFloor s = Floors.row(5, 5);
        s.load(0, 0, 4, 2);
        Due.is("side by side", s.best(0), 2);
        Due.is("the places at hand", s.cost(0), 12);
    }

    static void promise16_bestLeavesThePlaces() {
        ShopsOnFloor s = Floors.full();
        s.best(0);
        s.many(1);
        s.floor(2);
        s.settled(3);
        Due.is("places", s.places(), told(1, 4, 2, 5, 0));
    }

    static void promise17_manyYearOutOfBounds() {
        for (int year : Floors.beside(0, 3)) {
            Refused.everywhere("many(" + year + ")", s -> s.many(year), BAD);
        }
    }

    static void promise17_manyOfNoneThatAreRight() {
        Due.is("none", nothingRight().many(1), 0);
        Due.is("BAD", nothingRight().many(-1), BAD);
    }

    static void promise17_manyWithoutShops() {
        Due.is("no slots", new ShopsOnFloor().many(0), 1);
        Due.is("six slots", Floors.row(6, 0).many(3), 1);
    }

    static void promise17_manyIsOne() {
        for (int slot = 0; slot < 6; slot++) {
            Due.is("slot " + slot + " alone", onlyRight(slot).many(0), 1);
        }
    }

    static void promise17_manyAreAll() {
        int[] due = {1, 6, 30, 120, 360, 720};
        for (int shops = 0; shops <= 5; shops++) {
            Due.is(shops + " shops on six slots", Floors.row(6, shops).many(0), due[shops]);
        }
        Due.is("five shops on five slots", Floors.row(5, 5).many(0), 120);
    }

    static void promise17_manyCostTheSame() {
        ShopsOnFloor s = Floors.row(6, 2);
        s.load(0, 0, 1, 1);
        Due.is("five twos side by side, both ways about", s.many(0), 10);
    }

    static void promise18_takeYearOutOfBounds() {
        for (int year : Floors.beside(0, 3)) {
            Refused.everywhere("take(" + year + ")", s -> s.take(year), BAD);
        }
    }

    static void promise18_takeOfNoneThatAreRight() {
        for (int year = 0; year < 4; year++) {
            int one = year;
            Refused.on(EdgesOfPlacesTest::nothingRight, "take(" + one + ")", s -> s.take(one), NOT);
        }
    }

    static void promise18_takeBadIsAheadOfNot() {
        for (int year : Floors.beside(0, 3)) {
            Refused.on(EdgesOfPlacesTest::nothingRight, "take(" + year + ")", s -> s.take(year), BAD);
        }
    }

    static void promise18_takeWithoutShops() {
        ShopsOnFloor s = Floors.row(6, 0);
        Due.is("take", s.take(0), 0);
        Due.is("places", s.places(), 0);
    }

    static void promise18_takeTheFirstOfSeveral() {
        ShopsOnFloor s = Floors.row(6, 2);
        s.load(0, 0, 1, 3);
        s.put(told(5, 4));
        Due.is("they are best already", s.cost(0), 3);
        Due.is("take", s.take(0), 3);
        Due.is("the first", s.places(), told(0, 1));
        Due.is("take again", s.take(0), 3);
        Due.is("the same", s.places(), told(0, 1));
    }

    static void promise18_takeTheOnlyOne() {
        for (int slot = 0; slot < 6; slot++) {
            ShopsOnFloor s = onlyRight(slot);
            Due.is("take", s.take(2), 0);
            Due.is("places", s.places(), slot);
        }
    }

    static void promise19_floorYearOutOfBounds() {
        for (int year : Floors.beside(0, 3)) {
            Refused.everywhere("floor(" + year + ")", s -> s.floor(year), BAD);
        }
    }

    static void promise19_floorWithoutLoads() {
        Due.is("no shops", new ShopsOnFloor().floor(0), 0);
        Due.is("no two slots with a way", Floors.snake(3).floor(0), 0);
        Due.is("five shops", Floors.row(6, 5).floor(0), 0);
    }

    static void promise19_floorAsManyFarsAsLoads() {
        ShopsOnFloor s = Floors.snake(0, 5, 9);
        s.load(0, 0, 1, 1);
        s.load(0, 1, 0, 2);
        Due.is("one load, two fars of 4 and 5", s.floor(0), 3 * 4);
        s.load(0, 1, 2, 10);
        Due.is("two loads, two fars", s.floor(0), 10 * 4 + 3 * 5);
        s.load(0, 2, 0, 1);
        Due.is("three loads, two fars", s.floor(0), NONE);
        Due.is("another year", s.floor(1), 0);
        Due.is("BAD is ahead of NONE", s.floor(4), BAD);
    }

    static void promise19_floorWithoutAnyWay() {
        ShopsOnFloor s = Floors.snake(0, 5);
        s.column(3, 0, true);
        s.load(0, 0, 1, 1);
        Due.is("one load, no far", s.floor(0), NONE);
        s.load(0, 0, 1, 0);
        Due.is("no load, no far", s.floor(0), 0);
    }

    static void promise19_floorBothWaysAreOneLoad() {
        ShopsOnFloor s = Floors.snake(0, 7);
        s.load(0, 0, 1, 98);
        s.load(0, 1, 0, 99);
        Due.is("together, on the one far there is", s.floor(0), 197 * 7);
    }

    static void promise19_floorOfTheGreatestLoads() {
        ShopsOnFloor s = Floors.row(6, 5);
        for (int load = 0; load < 20; load++) {
            s.load(3, load / 4, (load / 4 + 1 + load % 4) % 5, 99);
        }
        Due.is("ten loads: fars of 1 five times, 4 four times, 5 once", s.floor(3), 198 * (5 + 16 + 5));
    }

    static void promise19_floorOfFreeSlotsToo() {
        ShopsOnFloor s = Floors.snake(0, 10, 12);
        s.load(0, 0, 1, 5);
        s.slot(5, 4);
        Due.is("2 is the least far", s.floor(0), 10);
        s.slot(5, 5);
        Due.is("side by side, both are free", s.floor(0), 5);
    }

    static void promise19_floorAsksForNoRightPlaces() {
        ShopsOnFloor s = nothingRight();
        s.bound(0);
        Due.is("floor", s.floor(1), 7);
        Due.is("none are right", s.best(1), NONE);
    }

    static void promise20_settledYearOutOfBounds() {
        for (int year : Floors.beside(0, 3)) {
            Refused.everywhere("settled(" + year + ")", s -> s.settled(year), BAD);
        }
    }

    static void promise20_settledWithoutShops() {
        Due.is("no shops", Floors.row(6, 0).settled(0), 1);
        Due.is("one shop", Floors.row(6, 1).settled(0), 1);
    }

    static void promise20_settledIfNotRight() {
        Due.is("none are right", nothingRight().settled(0), 0);
        Due.is("BAD is ahead", nothingRight().settled(4), BAD);
        ShopsOnFloor s = onlyRight(3);
        Due.is("others are right", s.settled(0), 0);
        s.put(3);
        Due.is("right by then", s.settled(0), 1);
    }

    static void promise20_settledThoughOthersCostTheSame() {
        ShopsOnFloor s = Floors.row(6, 2);
        s.load(0, 0, 1, 9);
        s.put(told(4, 5));
        Due.is("side by side", s.settled(0), 1);
    }

    static void promise20_settledThoughWrongPlacesCostLess() {
        ShopsOnFloor s = Floors.row(6, 2);
        s.load(0, 0, 1, 9);
        s.wish(0, 1, false, 4);
        s.put(told(0, 2));
        Due.is("4 apart", s.settled(0), 1);
        s.unwish(0);
        Due.is("no wish", s.settled(0), 0);
    }

    static void promise20_settledWithoutFreeSlots() {
        ShopsOnFloor s = Floors.row(3, 3);
        s.load(0, 0, 1, 1);
        Due.is("no exchange costs less", s.settled(0), 1);
        s.put(told(0, 2, 1));
        Due.is("an exchange costs less", s.settled(0), 0);
        Due.is("another year", s.settled(1), 1);
    }

    static void promise20_settledByAFreeSlotAlone() {
        ShopsOnFloor s = Floors.row(3, 2);
        s.load(0, 0, 1, 1);
        s.put(told(0, 2));
        Due.is("a shop may go between", s.settled(0), 0);
    }

    static void promise21_climbYearOutOfBounds() {
        for (int year : Floors.beside(0, 3)) {
            Refused.everywhere("climb(" + year + ")", s -> s.climb(year), BAD);
        }
    }

    static void promise21_climbBadIfNotRight() {
        Refused.on(EdgesOfPlacesTest::nothingRight, "climb(4)", s -> s.climb(4), BAD);
        Due.is("no change in a year", onlyRight(3).climb(-1), BAD);
    }

    static void promise21_climbWithoutShops() {
        Due.is("no shops", Floors.row(6, 0).climb(0), 0);
        Due.is("one shop", Floors.row(6, 1).climb(0), 0);
    }

    static void promise21_climbOfTheSettled() {
        ShopsOnFloor s = Floors.row(6, 2);
        s.load(0, 0, 1, 9);
        s.put(told(5, 4));
        Due.is("others cost the same", s.climb(0), 0);
        Due.is("places", s.places(), told(5, 4));
    }

    static void promise21_climbWhereNoneAreRight() {
        ShopsOnFloor s = nothingRight();
        Due.is("no change", s.climb(1), 0);
        Due.is("places", s.places(), told(5, 1, 3));
    }

    static void promise21_climbWhereNoOneChangeMakesThemRight() {
        ShopsOnFloor s = Floors.row(6, 3);
        s.wish(0, 1, true, 1);
        s.wish(1, 2, true, 1);
        s.put(told(5, 3, 0));
        Due.is("two would have to go", s.climb(0), 0);
        Due.is("places", s.places(), told(5, 3, 0));
        Due.is("some are right", s.best(0), 0);
    }

    static void promise21_climbToRightPlaces() {
        for (int slot = 0; slot < 6; slot++) {
            ShopsOnFloor s = onlyRight(slot);
            s.put((slot + 1) % 6);
            Due.is("one change", s.climb(0), 1);
            Due.is("places", s.places(), slot);
            Due.is("none by then", s.climb(0), 0);
        }
    }

    static void promise21_climbToTheFirstOfSeveral() {
        ShopsOnFloor s = Floors.row(3, 3);
        s.load(0, 0, 1, 1);
        s.put(told(0, 2, 1));
        Due.is("one exchange", s.climb(0), 1);
        Due.is("(0, 1, 2) is ahead of (1, 2, 0)", s.places(), told(0, 1, 2));
    }

    static void promise21_climbAgainAndAgain() {
        ShopsOnFloor s = Floors.row(6, 4);
        s.load(3, 1, 0, 1);
        s.load(3, 2, 3, 1);
        s.put(told(0, 2, 1, 5));
        Due.is("two changes", s.climb(3), 2);
        Due.is("places", s.places(), told(0, 1, 4, 5));
        Due.is("settled by then", s.settled(3), 1);
    }
}
