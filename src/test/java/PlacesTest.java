/** Promises 13 to 21: places, told as numbers. */
public final class PlacesTest {
    private static final int NONE = -1, BAD = -2, NOT = -3;

    public static void main(String[] args) {
        noShops();
        badYears();
        puts();
        costs();
        bests();
        bestsAreFirstByShopZero();
        exitsOfBests();
        takes();
        floors();
        floorsOfPairs();
        settleds();
        climbs();
        climbsFromWrongPlaces();
        climbsTakeTheFirst();
        Due.end();
    }

    private static int told(int... slots) {
        return Floors.told(slots);
    }

    private static void noShops() {
        ShopsOnFloor s = Floors.row(3, 0);
        for (int year = 0; year < 4; year++) {
            Due.is("cost without shops", s.cost(year), 0);
            Due.is("best without shops", s.best(year), 0);
            Due.is("many without shops", s.many(year), 1);
            Due.is("take without shops", s.take(year), 0);
            Due.is("floor without shops", s.floor(year), 0);
            Due.is("settled without shops", s.settled(year), 1);
            Due.is("climb without shops", s.climb(year), 0);
        }
        Due.is("places without shops", s.places(), 0);
        Due.is("put without shops", s.put(0), 1);
        Due.is("put without shops", s.put(1), BAD);
    }

    private static void badYears() {
        ShopsOnFloor s = Floors.row(3, 2);
        s.put(told(2, 0));
        s.load(0, 0, 1, 1);
        int[] years = {-1, 4, Integer.MAX_VALUE, Integer.MIN_VALUE};
        for (int year : years) {
            Due.is("cost " + year, s.cost(year), BAD);
            Due.is("best " + year, s.best(year), BAD);
            Due.is("many " + year, s.many(year), BAD);
            Due.is("take " + year, s.take(year), BAD);
            Due.is("floor " + year, s.floor(year), BAD);
            Due.is("settled " + year, s.settled(year), BAD);
            Due.is("climb " + year, s.climb(year), BAD);
        }
        Due.is("BAD changes no places", s.places(), told(2, 0));
        s.wish(0, 1, true, 0);
        Due.is("BAD is ahead of NOT", s.take(4), BAD);
    }

    /** Promises 13 and 14. */
    private static void puts() {
        ShopsOnFloor s = Floors.row(4, 3);
        Due.is("first places", s.places(), told(0, 1, 2));
        Due.is("put", s.put(told(3, 1, 0)), 1);
        Due.is("places", s.places(), 3 + 6);
        int[] none = {-1, Integer.MIN_VALUE, Integer.MAX_VALUE, told(1, 1, 0), told(0, 2, 2), told(3, 0, 3),
            told(4, 1, 0), told(0, 5, 1), told(0, 1, 4), told(0, 1, 2) + 216, told(0, 1, 2, 3), -told(0, 1, 2)};
        for (int told : none) {
            Due.is("put " + told, s.put(told), BAD);
            Due.is("places stay", s.places(), told(3, 1, 0));
        }
        s.slot(5, 5);
        Due.is("put with the new slot", s.put(told(4, 1, 0)), 1);
        s.shop();
        Due.is("a new shop", s.places(), told(4, 1, 0, 2));
        Due.is("three digits are the fourth on slot 0", s.put(told(4, 1, 0)), BAD);
        Due.is("four digits", s.put(told(3, 2, 1, 0)), 1);
        Due.is("places of four", s.places(), told(3, 2, 1, 0));
        s = Floors.row(3, 1);
        for (int told = -7; told < 0; told++) {
            Due.is("put of one shop, " + told, s.put(told), BAD);
        }
        for (int told = 3; told < 44; told++) {
            Due.is("put of one shop, " + told, s.put(told), BAD);
        }
        Due.is("the shop stays", s.places(), 0);
    }

    /** Promise 15. */
    private static void costs() {
        ShopsOnFloor s = Floors.row(6, 3);
        Due.is("no loads", s.cost(0), 0);
        s.load(0, 0, 1, 3);
        s.load(0, 1, 0, 4);
        s.load(0, 2, 0, 5);
        s.load(1, 1, 2, 99);
        Due.is("far 1 and, around slot 1, 4", s.cost(0), 3 + 4 + 5 * 4);
        Due.is("another year", s.cost(1), 99);
        Due.is("a year without loads", s.cost(3), 0);
        s.put(told(5, 4, 0));
        Due.is("other places", s.cost(0), 7 + 5 * 7);
        s.column(0, 1, true);
        Due.is("slot 0 is open to slot 1 alone", s.cost(0), NONE);
        Due.is("no load goes where there is no way", s.cost(2), 0);
        s.load(0, 2, 0, 0);
        Due.is("a load of 0 goes nowhere", s.cost(0), 7);
        s.load(0, 0, 2, 1);
        Due.is("one way is enough", s.cost(0), NONE);
        s.put(told(1, 4, 0));
        Due.is("side by side", s.cost(0), 1 + 7 * 5);
        s.exit(1, 1, true);
        s.bound(5);
        Due.is("the shop in the corner has no way out", s.cost(0), NONE);
        s.put(told(1, 4, 2));
        Due.is("all are out", s.cost(0), 1 + 7 * 5);
        s.bound(3);
        Due.is("slot 4 is 4 from the exit", s.cost(0), NONE);
    }

    /** Promises 16 and 17. */
    private static void bests() {
        ShopsOnFloor s = Floors.row(6, 2);
        Due.is("all are best without loads", s.many(0), 30);
        Due.is("they cost nothing", s.best(0), 0);
        s.load(0, 0, 1, 9);
        Due.is("side by side is best", s.best(0), 9);
        Due.is("five pairs, both ways about", s.many(0), 10);
        s.wish(0, 1, false, 4);
        Due.is("4 apart at least", s.best(0), 36);
        Due.is("four pairs, both ways about", s.many(0), 8);
        Due.is("another year costs nothing", s.best(1), 0);
        Due.is("six pairs 4 or 5 apart, and more", s.many(1), 20);
        s.wish(0, 1, true, 3);
        Due.is("none are right", s.best(0), NONE);
        Due.is("none", s.many(0), 0);
        Due.is("places are as they were", s.places(), told(0, 1));
        s = Floors.row(6, 5);
        Due.is("all places of five shops", s.many(0), 720);
    }

    private static void bestsAreFirstByShopZero() {
        ShopsOnFloor s = Floors.row(3, 2);
        s.wish(0, 1, true, 1);
        s.load(0, 0, 1, 1);
        s.put(told(2, 0));
        Due.is("best", s.take(0), 1);
        Due.is("the first is (0, 1), not the lowest number told", s.places(), told(0, 1));
        Due.is("four are best", s.many(0), 4);
    }

    private static void exitsOfBests() {
        ShopsOnFloor s = Floors.row(6, 1);
        s.exit(4, 1, true);
        s.bound(2);
        Due.is("slots 3, 4 and 5 are near", s.many(0), 3);
        Due.is("take", s.take(0), 0);
        Due.is("the first of them", s.places(), 3);
        s.bound(1);
        Due.is("slot 4 alone", s.many(0), 1);
        s.bound(0);
        Due.is("none", s.many(0), 0);
        Due.is("best of none", s.best(0), NONE);
    }

    /** Promise 18. */
    private static void takes() {
        ShopsOnFloor s = Floors.row(4, 3);
        s.load(2, 0, 2, 10);
        s.load(2, 2, 1, 1);
        Due.is("take", s.take(2), 11);
        Due.is("shop 2 is between", s.places(), told(0, 2, 1));
        Due.is("cost of the taken", s.cost(2), 11);
        Due.is("a year without loads", s.take(0), 0);
        Due.is("its first", s.places(), told(0, 1, 2));
        s.put(told(3, 1, 0));
        s.wish(0, 1, true, 0);
        Due.is("take of none", s.take(2), NOT);
        Due.is("places stay", s.places(), told(3, 1, 0));
    }

    /** Promise 19. */
    private static void floors() {
        ShopsOnFloor s = Floors.row(3, 3);
        Due.is("no loads", s.floor(0), 0);
        s.load(0, 0, 1, 2);
        s.load(0, 1, 2, 9);
        s.load(0, 0, 2, 5);
        Due.is("fars are 1, 1, 4", s.floor(0), 9 + 5 + 2 * 4);
        s.column(2, 1, true);
        Due.is("fars are 1, 1, 8", s.floor(0), 9 + 5 + 2 * 8);
        s.column(3, 0, true);
        Due.is("fars are 1, 1", s.floor(0), NONE);
        Due.is("no loads need no fars", s.floor(1), 0);
        s.load(0, 0, 1, 0);
        Due.is("two loads, two fars", s.floor(0), 14);
        s.wish(0, 1, true, 0);
        s.bound(0);
        Due.is("floor asks for no right places", s.floor(0), 14);
        s = Floors.row(1, 1);
        Due.is("one slot, one shop", s.floor(0), 0);
        s = Floors.row(6, 2);
        s.load(3, 1, 0, 7);
        Due.is("the least far of all slots", s.floor(3), 7);
        Due.is("another year", s.floor(0), 0);
    }

    private static void floorsOfPairs() {
        ShopsOnFloor s = new ShopsOnFloor();
        s.slot(0, 0);
        s.slot(2, 0);
        s.slot(5, 5);
        s.shop();
        s.shop();
        s.shop();
        s.load(0, 0, 1, 4);
        s.load(0, 1, 0, 4);
        s.load(0, 1, 2, 7);
        Due.is("both ways together: 8 times 2, 7 times 8", s.floor(0), 8 * 2 + 7 * 8);
        s.load(0, 2, 0, 99);
        s.load(0, 0, 2, 99);
        Due.is("198 times 2, 8 times 8, 7 times 10", s.floor(0), 198 * 2 + 8 * 8 + 7 * 10);
    }

    /** Promise 20. */
    private static void settleds() {
        ShopsOnFloor s = Floors.row(6, 2);
        Due.is("nothing costs less than nothing", s.settled(0), 1);
        s.load(0, 0, 1, 1);
        Due.is("side by side", s.settled(0), 1);
        s.put(told(0, 2));
        Due.is("a shop may come nearer", s.settled(0), 0);
        s.wish(1, 0, false, 4);
        Due.is("4 is the least there is", s.settled(0), 1);
        s.put(told(0, 1));
        Due.is("not right is not settled", s.settled(0), 0);
        s.wish(1, 0, true, 3);
        Due.is("not settled where none are right", s.settled(0), 0);
        s = Floors.row(3, 3);
        s.load(1, 0, 1, 1);
        s.put(told(0, 2, 1));
        Due.is("an exchange costs less", s.settled(1), 0);
        s.put(told(2, 1, 0));
        Due.is("no exchange costs less", s.settled(1), 1);
    }

    /** Promise 21. */
    private static void climbs() {
        ShopsOnFloor s = Floors.row(6, 3);
        s.load(0, 0, 1, 1);
        s.load(0, 1, 2, 1);
        s.put(told(0, 5, 2));
        Due.is("the places cost", s.cost(0), 7 + 5);
        Due.is("one change", s.climb(0), 1);
        Due.is("shop 1 goes between", s.places(), told(0, 1, 2));
        Due.is("settled by then", s.settled(0), 1);
        Due.is("no change", s.climb(0), 0);
        Due.is("places stay", s.places(), told(0, 1, 2));
        Due.is("another year has nothing to climb", s.climb(1), 0);
        s = Floors.row(6, 4);
        s.load(3, 1, 0, 1);
        s.load(3, 2, 3, 1);
        s.put(told(0, 2, 1, 5));
        Due.is("the places cost", s.cost(3), 4 + 6);
        Due.is("two changes", s.climb(3), 2);
        Due.is("shop 2 to slot 4 (5 in all), then shop 1 to slot 1", s.places(), told(0, 1, 4, 5));
        Due.is("it costs the least", s.cost(3), 2);
    }

    private static void climbsFromWrongPlaces() {
        ShopsOnFloor s = Floors.row(6, 2);
        s.load(0, 0, 1, 3);
        s.wish(0, 1, false, 6);
        Due.is("not right", s.cost(0), NONE);
        Due.is("one change to any right places", s.climb(0), 1);
        Due.is("the least cost, first of the several", s.places(), told(0, 4));
        Due.is("their cost", s.cost(0), 18);
        s.wish(0, 1, true, 5);
        Due.is("no right places", s.climb(0), 0);
        Due.is("places stay", s.places(), told(0, 4));
        Due.is("still not right", s.cost(0), NONE);
        s = Floors.row(6, 3);
        s.wish(0, 1, true, 1);
        s.wish(2, 1, true, 1);
        s.put(told(5, 3, 0));
        Due.is("two shops must go: no one change does", s.climb(0), 0);
        Due.is("no places are between", s.places(), told(5, 3, 0));
        Due.is("though some are right", s.best(0), 0);
    }

    private static void climbsTakeTheFirst() {
        ShopsOnFloor s = Floors.row(6, 2);
        s.load(0, 0, 1, 1);
        s.put(told(2, 4));
        Due.is("one change", s.climb(0), 1);
        Due.is("(2, 1) is ahead of (2, 3), (3, 4) and (5, 4)", s.places(), told(2, 1));
        s.put(told(4, 2));
        Due.is("one change", s.climb(0), 1);
        Due.is("(1, 2) is ahead of (3, 2) and (4, 3)", s.places(), told(1, 2));
    }
}
