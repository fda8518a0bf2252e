/** The boundary cases of promises 8 to 12, each in a function named after its promise and the case. */
public final class EdgesOfShopsTest {
    private static final int NONE = -1, BAD = -2, NOT = -3, FULL = -4;
    private static final int[][] TWOS = {{0, 1}, {0, 2}, {0, 3}, {1, 2}, {1, 3}, {2, 3}};

    public static void main(String[] args) {
        Due.cases(EdgesOfShopsTest.class);
        Due.end();
    }

    static void promise08_shopWithoutSlots() {
        Refused.on(ShopsOnFloor::new, "shop()", s -> s.shop(), NOT);
    }

    static void promise08_shopWithAsManySlotsAsShops() {
        for (int slots = 1; slots <= 4; slots++) {
            int both = slots;
            Refused.on(() -> Floors.row(both, both), both + " of each: shop()", s -> s.shop(), NOT);
        }
    }

    static void promise08_shopTheFifthAndTheSixth() {
        ShopsOnFloor s = Floors.row(6, 4);
        Due.is("the fifth", s.shop(), 4);
        Due.is("the sixth", s.shop(), FULL);
        Due.is("shops", s.count(1), 5);
        Due.is("places", s.places(), Floors.told(0, 1, 2, 3, 4));
    }

    static void promise08_shopFullChangesNothing() {
        Refused.on(Floors::full, "shop()", s -> s.shop(), FULL);
    }

    static void promise08_shopFullIsAheadOfNot() {
        Refused.on(() -> Floors.row(5, 5), "five of each: shop()", s -> s.shop(), FULL);
    }

    static void promise08_shopOnTheLastFreeSlot() {
        for (int slots = 1; slots <= 5; slots++) {
            ShopsOnFloor s = Floors.row(slots, slots - 1);
            Due.is("shop", s.shop(), slots - 1);
            Due.is("slots", s.count(0), s.count(1));
        }
    }

    static void promise08_shopOnTheFirstFreeSlot() {
        for (int taken = 0; taken < 6; taken++) {
            ShopsOnFloor s = Floors.row(6, 1);
            s.put(taken);
            Due.is("shop", s.shop(), 1);
            Due.is("shop 0 on slot " + taken, s.places(), Floors.told(taken, taken == 0 ? 1 : 0));
        }
        for (int free = 0; free < 5; free++) {
            ShopsOnFloor s = Floors.row(5, 4);
            s.put(Floors.told((free + 4) % 5, (free + 3) % 5, (free + 2) % 5, (free + 1) % 5));
            Due.is("shop", s.shop(), 4);
            Due.is("slot " + free + " is free", s.places() / 1296, free);
        }
    }

    static void promise08_shopIsNewInAll() {
        ShopsOnFloor s = Floors.row(6, 4);
        s.shop();
        Due.is("it weighs 1", s.weight(4, 50), 1);
        for (int year = 0; year < 4; year++) {
            for (int other = 0; other < 4; other++) {
                Due.is("no load from it", s.load(year, 4, other, 1), 0);
                Due.is("no load to it", s.load(year, other, 4, 1), 0);
            }
        }
    }

    static void promise08_shopIsNotAskedWhetherPlacesAreRight() {
        ShopsOnFloor s = Floors.closedIn(2);
        s.wish(0, 1, true, 20);
        s.bound(0);
        Due.is("places are not right", s.cost(0), NONE);
        Due.is("shop", s.shop(), 2);
    }

    static void promise09_loadWithoutShops() {
        Refused.on(() -> Floors.row(6, 0), "load(0, 0, 1, 1)", s -> s.load(0, 0, 1, 1), BAD);
        Refused.on(ShopsOnFloor::new, "load(0, 0, 1, 1)", s -> s.load(0, 0, 1, 1), BAD);
    }

    static void promise09_loadOfOneShopAlone() {
        Refused.on(() -> Floors.row(6, 1), "load(0, 0, 1, 1)", s -> s.load(0, 0, 1, 1), BAD);
        Refused.on(() -> Floors.row(6, 1), "load(0, 0, 0, 1)", s -> s.load(0, 0, 0, 1), BAD);
    }

    static void promise09_loadYearOutOfBounds() {
        for (int year : Floors.beside(0, 3)) {
            Refused.everywhere("load(" + year + ", 0, 1, 1)", s -> s.load(year, 0, 1, 1), BAD);
        }
    }

    static void promise09_loadFromOutOfBounds() {
        for (int shops = 2; shops <= 5; shops++) {
            for (int from : Floors.beside(0, shops - 1)) {
                Due.is(shops + " shops, from " + from, Floors.row(6, shops).load(0, from, 1, 1), BAD);
            }
        }
        for (int from : Floors.beside(0, 4)) {
            Refused.everywhere("load(0, " + from + ", 1, 1)", s -> s.load(0, from, 1, 1), BAD);
        }
    }

    static void promise09_loadToOutOfBounds() {
        for (int shops = 2; shops <= 5; shops++) {
            for (int to : Floors.beside(0, shops - 1)) {
                Due.is(shops + " shops, to " + to, Floors.row(6, shops).load(0, 0, to, 1), BAD);
            }
        }
        for (int to : Floors.beside(0, 4)) {
            Refused.everywhere("load(0, 0, " + to + ", 1)", s -> s.load(0, 0, to, 1), BAD);
        }
    }

    static void promise09_loadToItself() {
        for (int shop = 0; shop < 5; shop++) {
            int one = shop;
            Refused.everywhere("load(0, " + one + ", " + one + ", 1)", s -> s.load(0, one, one, 1), BAD);
        }
    }

    static void promise09_loadNumberOutOfBounds() {
        for (int v : Floors.beside(0, 99)) {
            Refused.everywhere("load(0, 0, 1, " + v + ")", s -> s.load(0, 0, 1, v), BAD);
        }
    }

    static void promise09_loadAtTheBounds() {
        ShopsOnFloor s = Floors.row(6, 5);
        Due.is("the greatest", s.load(3, 4, 0, 99), 0);
        Due.is("the least", s.load(3, 4, 0, 0), 99);
        Due.is("the least again", s.load(3, 4, 0, 0), 0);
    }

    static void promise09_loadRefusedIsNotKept() {
        ShopsOnFloor s = Floors.row(6, 5);
        s.load(1, 2, 3, 45);
        Due.is("one above", s.load(1, 2, 3, 100), BAD);
        Due.is("one below", s.load(1, 2, 3, -1), BAD);
        Due.is("which it was", s.load(1, 2, 3, 45), 45);
    }

    static void promise09_loadsOfAllYearsAndShopsStandAlone() {
        ShopsOnFloor s = Floors.row(6, 5);
        for (int load = 0; load < 80; load++) {
            int from = load / 4 % 5;
            Due.is("first", s.load(load / 20, from, (from + 1 + load % 4) % 5, 1 + load), 0);
        }
        for (int load = 0; load < 80; load++) {
            int from = load / 4 % 5;
            Due.is("then", s.load(load / 20, from, (from + 1 + load % 4) % 5, 0), 1 + load);
        }
    }

    static void promise10_weightWithoutShops() {
        Refused.on(ShopsOnFloor::new, "weight(0, 1)", s -> s.weight(0, 1), BAD);
        Refused.on(() -> Floors.row(6, 0), "weight(0, 1)", s -> s.weight(0, 1), BAD);
    }

    static void promise10_weightShopOutOfBounds() {
        for (int shops = 1; shops <= 5; shops++) {
            for (int shop : Floors.beside(0, shops - 1)) {
                Due.is(shops + " shops: weight(" + shop + ", 5)", Floors.row(6, shops).weight(shop, 5), BAD);
            }
        }
        for (int shop : Floors.beside(0, 4)) {
            Refused.everywhere("weight(" + shop + ", 5)", s -> s.weight(shop, 5), BAD);
        }
    }

    static void promise10_weightNumberOutOfBounds() {
        for (int v : Floors.beside(1, 50)) {
            Refused.everywhere("weight(0, " + v + ")", s -> s.weight(0, v), BAD);
        }
    }

    static void promise10_weightAtTheBounds() {
        ShopsOnFloor s = Floors.row(6, 5);
        for (int shop = 0; shop < 5; shop++) {
            Due.is("the greatest", s.weight(shop, 50), 1);
            Due.is("the least", s.weight(shop, 1), 50);
            Due.is("the least again", s.weight(shop, 1), 1);
        }
    }

    static void promise10_weightRefusedIsNotKept() {
        ShopsOnFloor s = Floors.row(6, 2);
        s.weight(1, 33);
        Due.is("one above", s.weight(1, 51), BAD);
        Due.is("one below", s.weight(1, 0), BAD);
        Due.is("which it was", s.weight(1, 33), 33);
        Due.is("the other one's", s.weight(0, 2), 1);
    }

    static void promise11_wishWithoutShops() {
        Refused.on(ShopsOnFloor::new, "wish(0, 1, true, 1)", s -> s.wish(0, 1, true, 1), BAD);
        Refused.on(() -> Floors.row(6, 0), "wish(0, 1, false, 1)", s -> s.wish(0, 1, false, 1), BAD);
        Refused.on(() -> Floors.row(6, 1), "wish(0, 1, false, 1)", s -> s.wish(0, 1, false, 1), BAD);
    }

    static void promise11_wishFirstShopOutOfBounds() {
        for (int shops = 2; shops <= 5; shops++) {
            for (int a : Floors.beside(0, shops - 1)) {
                Due.is(shops + " shops: wish of " + a, Floors.row(6, shops).wish(a, 1, true, 5), BAD);
            }
        }
        for (int a : Floors.beside(0, 4)) {
            Refused.everywhere("wish(" + a + ", 1, true, 5)", s -> s.wish(a, 1, true, 5), BAD);
        }
    }

    static void promise11_wishSecondShopOutOfBounds() {
        for (int shops = 2; shops <= 5; shops++) {
            for (int b : Floors.beside(0, shops - 1)) {
                Due.is(shops + " shops: wish of " + b, Floors.row(6, shops).wish(0, b, false, 5), BAD);
            }
        }
        for (int b : Floors.beside(0, 4)) {
            Refused.everywhere("wish(0, " + b + ", false, 5)", s -> s.wish(0, b, false, 5), BAD);
        }
    }

    static void promise11_wishOfOneAndItself() {
        for (int shop = 0; shop < 5; shop++) {
            int one = shop;
            Refused.everywhere("wish(" + one + ", " + one + ", true, 5)", s -> s.wish(one, one, true, 5), BAD);
            Refused.everywhere("wish(" + one + ", " + one + ", false, 0)", s -> s.wish(one, one, false, 0), BAD);
        }
    }

    static void promise11_wishNumberOutOfBounds() {
        for (int d : Floors.beside(0, 20)) {
            Refused.everywhere("wish(0, 1, true, " + d + ")", s -> s.wish(0, 1, true, d), BAD);
            Refused.everywhere("wish(0, 1, false, " + d + ")", s -> s.wish(0, 1, false, d), BAD);
        }
    }

    static void promise11_wishAtTheBounds() {
        ShopsOnFloor s = Floors.row(6, 5);
        Due.is("near 0", s.wish(0, 4, true, 0), 0);
        Due.is("near 20", s.wish(4, 0, true, 20), 1);
        Due.is("apart 0", s.wish(3, 4, false, 0), 2);
        Due.is("apart 20", s.wish(4, 3, false, 20), 3);
    }

    static void promise11_wishTheSixthAndTheSeventh() {
        ShopsOnFloor s = Floors.row(6, 2);
        for (int wish = 0; wish < 6; wish++) {
            Due.is("wish", s.wish(0, 1, true, 20), wish);
        }
        Due.is("the seventh", s.wish(0, 1, true, 0), FULL);
        Due.is("wishes", s.count(2), 6);
        Due.is("it is not asked", s.cost(0), 0);
        s.unwish(3);
        Due.is("room again", s.wish(0, 1, true, 0), 5);
        Due.is("it is asked", s.cost(0), NONE);
    }

    static void promise11_wishFullChangesNothing() {
        Refused.on(Floors::full, "wish(0, 1, true, 0)", s -> s.wish(0, 1, true, 0), FULL);
        Refused.on(Floors::full, "wish(4, 3, false, 20)", s -> s.wish(4, 3, false, 20), FULL);
    }

    static void promise11_wishBadIsAheadOfFull() {
        Due.is("no such shop", Floors.full().wish(5, 1, true, 5), BAD);
        Due.is("no such other shop", Floors.full().wish(0, 5, true, 5), BAD);
        Due.is("one and itself", Floors.full().wish(2, 2, true, 5), BAD);
        Due.is("number above", Floors.full().wish(0, 1, true, 21), BAD);
        Due.is("number below", Floors.full().wish(0, 1, false, -1), BAD);
    }

    static void promise11_wishTheSameTwiceAreTwo() {
        ShopsOnFloor s = Floors.row(3, 2);
        Due.is("wish", s.wish(0, 1, true, 0), 0);
        Due.is("the same again", s.wish(0, 1, true, 0), 1);
        s.unwish(0);
        Due.is("one is left", s.count(2), 1);
        Due.is("it is asked", s.cost(0), NONE);
    }

    static void promise12_unwishWithoutWishes() {
        for (int wish : new int[] {0, 1, -1, Integer.MIN_VALUE, Integer.MAX_VALUE}) {
            Refused.on(ShopsOnFloor::new, "unwish(" + wish + ")", s -> s.unwish(wish), BAD);
            Refused.on(() -> Floors.row(6, 5), "unwish(" + wish + ")", s -> s.unwish(wish), BAD);
        }
    }

    static void promise12_unwishOutOfBounds() {
        for (int wishes = 1; wishes <= 6; wishes++) {
            ShopsOnFloor s = Floors.row(6, 2);
            for (int wish = 0; wish < wishes; wish++) {
                s.wish(0, 1, true, 20);
            }
            for (int wish : Floors.beside(0, wishes - 1)) {
                Due.is(wishes + " wishes: unwish(" + wish + ")", s.unwish(wish), BAD);
            }
            Due.is("wishes", s.count(2), wishes);
        }
        for (int wish : Floors.beside(0, 5)) {
            Refused.everywhere("unwish(" + wish + ")", s -> s.unwish(wish), BAD);
        }
    }

    static void promise12_unwishTheFirstOfSix() {
        ShopsOnFloor s = sixWishes();
        Due.is("the first", s.unwish(0), 1);
        wishesAre(s, 1, 2, 3, 4, 5);
    }

    static void promise12_unwishOneBetween() {
        ShopsOnFloor s = sixWishes();
        Due.is("one between", s.unwish(2), 1);
        wishesAre(s, 0, 1, 3, 4, 5);
    }

    static void promise12_unwishTheLastOfSix() {
        ShopsOnFloor s = sixWishes();
        Due.is("the last", s.unwish(5), 1);
        wishesAre(s, 0, 1, 2, 3, 4);
    }

    static void promise12_unwishTheLastOne() {
        ShopsOnFloor s = Floors.row(3, 2);
        s.wish(0, 1, true, 0);
        Due.is("the only one", s.unwish(0), 1);
        Due.is("none is left", s.count(2), 0);
        Due.is("it is not asked", s.cost(0), 0);
        Due.is("no other one", s.unwish(0), BAD);
    }

    static void promise12_unwishKeepsWhatTheOthersAsk() {
        ShopsOnFloor s = Floors.snake(0, 10);
        s.wish(0, 1, true, 20);
        s.wish(0, 1, false, 11);
        s.unwish(0);
        Due.is("apart is still apart", s.cost(0), NONE);
        s = Floors.snake(0, 10);
        s.wish(0, 1, true, 20);
        s.wish(0, 1, true, 9);
        s.unwish(0);
        Due.is("9 is still 9", s.cost(0), NONE);
    }

    static void promise12_unwishAndWishInTurn() {
        ShopsOnFloor s = sixWishes();
        s.unwish(0);
        Due.is("a new one is the last", s.wish(1, 0, false, 4), 5);
        Due.is("and no more", s.wish(0, 1, true, 20), FULL);
        wishesAre(s, 1, 2, 3, 4, 5, 0);
    }

    /** Of four shops there are six twos; each wishes to be 4 apart at least. */
    private static ShopsOnFloor sixWishes() {
        ShopsOnFloor s = Floors.row(6, 4);
        for (int[] two : TWOS) {
            s.wish(two[0], two[1], false, 4);
        }
        return s;
    }

    /** The wishes that are left, in the order of their numbers: the first is dropped again and again. */
    private static void wishesAre(ShopsOnFloor s, int... due) {
        Due.is("wishes", s.count(2), due.length);
        for (int dropped = 0; dropped <= due.length; dropped++) {
            for (int two = 0; two < 6; two++) {
                boolean isAsked = false;
                for (int at = dropped; at < due.length; at++) {
                    isAsked |= due[at] == two;
                }
                s.put(sideBySide(TWOS[two]));
                Due.is(dropped + " dropped, wish " + two + " asked", s.cost(0), isAsked ? NONE : 0);
            }
            Due.is("dropped", s.unwish(0), dropped < due.length ? 1 : BAD);
        }
    }

    /** The two are on slots 0 and 1, the others on slots 3 and 5: no others are less than 4 apart. */
    private static int sideBySide(int[] two) {
        int[] slots = new int[4];
        int next = 3;
        for (int shop = 0; shop < 4; shop++) {
            if (shop == two[0] || shop == two[1]) {
                slots[shop] = shop == two[0] ? 0 : 1;
            } else {
                slots[shop] = next;
                next += 2;
            }
        }
        return Floors.told(slots);
    }
}
