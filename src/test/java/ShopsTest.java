/** Promises 8 to 12: shops, loads, weights and wishes. */
public final class ShopsTest {
    private static final int NONE = -1, BAD = -2, NOT = -3, FULL = -4;

    public static void main(String[] args) {
        shops();
        loads();
        weights();
        wishes();
        wishesOfPlaces();
        unwishes();
        Due.end();
    }

    /** Promise 8. */
    private static void shops() {
        ShopsOnFloor s = Floors.spread(0, 0);
        Due.is("no slot for a shop", s.shop(), NOT);
        s.slot(0, 0);
        Due.is("first shop", s.shop(), 0);
        Due.is("no slot for a second shop", s.shop(), NOT);
        Due.is("one shop", s.count(1), 1);
        s.slot(2, 0);
        s.slot(4, 0);
        s.put(1);
        Due.is("second shop", s.shop(), 1);
        Due.is("it is on the first free slot", s.places(), 1);
        s.put(2);
        Due.is("third shop", s.shop(), 2);
        Due.is("it is on the slot between", s.places(), 2 + 36);
        s = Floors.spread(5, 5);
        Due.is("FULL is ahead of NOT", s.shop(), FULL);
        s.slot(5, 5);
        Due.is("sixth shop", s.shop(), FULL);
        Due.is("five shops", s.count(1), 5);
        Due.is("all on their slots", s.places(), 6 + 2 * 36 + 3 * 216 + 4 * 1296);
        s = Floors.spread(6, 4);
        s.put(5 + 6 * 4 + 36 * 3 + 216);
        Due.is("fifth shop", s.shop(), 4);
        Due.is("the fifth is on slot 0", s.places(), 5 + 6 * 4 + 36 * 3 + 216);
        Due.is("the fifth weighs 1", s.weight(4, 2), 1);
        Due.is("it has no load", s.load(3, 4, 0, 0), 0);
    }

    /** Promise 9. */
    private static void loads() {
        ShopsOnFloor s = Floors.spread(3, 2);
        int[][] bad = {{-1, 0, 1, 1}, {4, 0, 1, 1}, {0, -1, 1, 1}, {0, 2, 1, 1}, {0, 0, -1, 1}, {0, 0, 2, 1},
            {0, 1, 1, 1}, {0, 0, 1, -1}, {0, 0, 1, 100}, {Integer.MAX_VALUE, 0, 1, 1}, {0, 0, 1, Integer.MIN_VALUE}};
        for (int[] b : bad) {
            Due.is("bad load", s.load(b[0], b[1], b[2], b[3]), BAD);
        }
        for (int year = 0; year < 4; year++) {
            Due.is("first load", s.load(year, 0, 1, 99 - year), 0);
            Due.is("load the other way", s.load(year, 1, 0, year), 0);
        }
        for (int year = 0; year < 4; year++) {
            Due.is("a year's cost", s.cost(year), 2 * 99);
            Due.is("which it was", s.load(year, 0, 1, 0), 99 - year);
            Due.is("which it was, the other way", s.load(year, 1, 0, 99), year);
            Due.is("bad load changes nothing", s.load(year, 0, 1, 100), BAD);
            Due.is("0 by then", s.load(year, 0, 1, 0), 0);
            Due.is("a year's cost by then", s.cost(year), 2 * 99);
        }
        s.shop();
        Due.is("a new shop has no loads", s.load(0, 2, 0, 1), 0);
    }

    /** Promise 10. */
    private static void weights() {
        ShopsOnFloor s = Floors.spread(3, 2);
        Due.is("weight of no shop", s.weight(2, 5), BAD);
        Due.is("weight of no shop", s.weight(-1, 5), BAD);
        Due.is("weight below", s.weight(0, 0), BAD);
        Due.is("weight above", s.weight(0, 51), BAD);
        Due.is("first weight", s.weight(0, 50), 1);
        Due.is("second weight", s.weight(0, 1), 50);
        Due.is("third weight", s.weight(0, 7), 1);
        Due.is("the other shop's weight", s.weight(1, 9), 1);
        Due.is("a move costs the weight", s.move(2 + 6), 7);
        Due.is("a move costs the other weight", s.move(12), 9);
    }

    /** Promise 11. */
    private static void wishes() {
        ShopsOnFloor s = Floors.spread(3, 2);
        Due.is("wish of no shop", s.wish(0, 2, true, 1), BAD);
        Due.is("wish of no shop", s.wish(2, 0, true, 1), BAD);
        Due.is("wish of no shop", s.wish(-1, 0, false, 1), BAD);
        Due.is("wish of one shop and itself", s.wish(1, 1, true, 1), BAD);
        Due.is("wish below", s.wish(0, 1, true, -1), BAD);
        Due.is("wish above", s.wish(0, 1, true, 21), BAD);
        Due.is("no wishes by then", s.count(2), 0);
        for (int i = 0; i < 6; i++) {
            Due.is("wish " + i, s.wish(i % 2, 1 - i % 2, i < 3, i < 3 ? 20 : 0), i);
        }
        Due.is("seventh wish", s.wish(0, 1, true, 1), FULL);
        Due.is("BAD is ahead of FULL, shop", s.wish(0, 2, true, 1), BAD);
        Due.is("BAD is ahead of FULL, same", s.wish(0, 0, true, 1), BAD);
        Due.is("BAD is ahead of FULL, number", s.wish(0, 1, false, 21), BAD);
        Due.is("six wishes", s.count(2), 6);
        Due.is("all are met", s.cost(0), 0);
    }

    /** What a wish means: the shops are 2 apart, or there is no way. */
    private static void wishesOfPlaces() {
        int[][] nearDue = {{1, NONE}, {2, 0}, {3, 0}, {20, 0}, {0, NONE}};
        int[][] apartDue = {{1, 0}, {2, 0}, {3, NONE}, {20, NONE}, {0, 0}};
        for (int[] due : nearDue) {
            ShopsOnFloor s = Floors.spread(2, 2);
            s.wish(1, 0, true, due[0]);
            Due.is("2 apart, near " + due[0], s.cost(2), due[1]);
        }
        for (int[] due : apartDue) {
            ShopsOnFloor s = Floors.spread(2, 2);
            s.wish(1, 0, false, due[0]);
            Due.is("2 apart, apart " + due[0], s.cost(2), due[1]);
        }
        ShopsOnFloor s = Floors.spread(2, 2);
        s.column(1, 0, true);
        s.column(0, 1, true);
        s.wish(0, 1, false, 20);
        Due.is("no way is apart", s.cost(0), 0);
        s.wish(0, 1, true, 20);
        Due.is("no way is not near", s.cost(0), NONE);
    }

    /** Promise 12. */
    private static void unwishes() {
        ShopsOnFloor s = Floors.spread(4, 4);
        Due.is("no wish", s.unwish(0), BAD);
        Due.is("no wish", s.unwish(-1), BAD);
        s.wish(0, 1, true, 2);
        s.wish(0, 2, true, 1);
        s.wish(0, 3, false, 2);
        s.wish(1, 2, false, 3);
        Due.is("wishes 1 and 3 are not met", s.cost(0), NONE);
        Due.is("no wish behind", s.unwish(4), BAD);
        Due.is("wish 1 goes", s.unwish(1), 1);
        Due.is("three wishes", s.count(2), 3);
        Due.is("no wish behind by then", s.unwish(3), BAD);
        Due.is("the last is not met", s.cost(0), NONE);
        Due.is("the last has number 2 now", s.unwish(2), 1);
        Due.is("all are met", s.cost(0), 0);
        Due.is("a new wish gets the number", s.wish(0, 1, false, 3), 2);
        Due.is("it is not met", s.cost(0), NONE);
        Due.is("the first goes", s.unwish(0), 1);
        Due.is("it is still not met", s.cost(0), NONE);
        Due.is("it has number 1", s.unwish(1), 1);
        Due.is("all are met again", s.cost(0), 0);
        Due.is("the last of all", s.unwish(0), 1);
        Due.is("none are left", s.unwish(0), BAD);
    }
}
