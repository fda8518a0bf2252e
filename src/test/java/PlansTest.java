/** Promises 22 to 26: moves, plans, counts. */
public final class PlansTest {
    private static final int NONE = -1, BAD = -2;

    public static void main(String[] args) {
        moves();
        movesInRings();
        movesWithoutFreeSlots();
        steps();
        badAims();
        plans();
        plansTakeTheFirst();
        plansWithoutRightPlaces();
        plansForgetNothing();
        badPlans();
        counts();
        Due.end();
    }

    private static int told(int... slots) {
        return Floors.told(slots);
    }

    /** Every step of the move, and none behind the last. */
    private static void stepsAre(ShopsOnFloor s, int aim, int... due) {
        for (int i = 0; i < due.length; i++) {
            Due.is("step " + aim + " " + i, s.step(aim, i), due[i]);
        }
        Due.is("step " + aim + " behind the last", s.step(aim, due.length), NONE);
        Due.is("step " + aim + " far behind the last", s.step(aim, Integer.MAX_VALUE), NONE);
    }

    /** Promise 22. */
    private static void moves() {
        ShopsOnFloor s = Floors.weighed(4, 2, 5);
        Due.is("where they are", s.move(told(0, 1)), 0);
        Due.is("one step", s.move(told(3, 1)), 2);
        Due.is("one step of the other", s.move(told(0, 2)), 5);
        Due.is("two steps", s.move(told(2, 3)), 7);
        Due.is("one behind the other", s.move(told(1, 2)), 7);
        Due.is("the places stay", s.places(), told(0, 1));
        s.wish(0, 1, true, 0);
        s.bound(0);
        s.load(0, 0, 1, 9);
        s.column(1, 1, true);
        Due.is("a move asks for no right places and no ways", s.move(told(1, 2)), 7);
        Due.is("no shops", new ShopsOnFloor().move(0), 0);
        Due.is("no shops, other places", new ShopsOnFloor().move(1), BAD);
    }

    private static void movesInRings() {
        ShopsOnFloor s = Floors.weighed(6, 3, 2, 7, 4, 9);
        Due.is("a ring of two: the lighter goes aside", s.move(told(1, 0, 2, 3, 4)), 3 + 2 + 2);
        Due.is("a ring of three", s.move(told(0, 1, 3, 4, 2)), 7 + 4 + 9 + 4);
        Due.is("two rings", s.move(told(1, 0, 3, 4, 2)), 25 + 2 + 4);
        Due.is("two rings of two", s.move(told(0, 2, 1, 4, 3)), 2 + 7 + 4 + 9 + 2 + 4);
        Due.is("a row to the free slot", s.move(told(1, 2, 3, 4, 5)), 25);
        Due.is("a row and a ring", s.move(told(5, 2, 1, 3, 4)), 3 + 2 + 7 + 2);
        Due.is("a ring of five", s.move(told(1, 2, 3, 4, 0)), 25 + 2);
    }

    private static void movesWithoutFreeSlots() {
        ShopsOnFloor s = Floors.weighed(3, 1, 1, 1);
        Due.is("where they are", s.move(told(0, 1, 2)), 0);
        Due.is("no free slot", s.move(told(0, 2, 1)), NONE);
        Due.is("no free slot", s.step(told(0, 2, 1), 0), NONE);
        s.slot(5, 5);
        Due.is("a free slot", s.move(told(0, 2, 1)), 3);
    }

    /** Promise 23. */
    private static void steps() {
        ShopsOnFloor s = Floors.weighed(6, 1, 1, 1, 1);
        stepsAre(s, told(0, 1, 2, 3));
        stepsAre(s, told(0, 1, 5, 3), 25);
        stepsAre(s, told(5, 1, 4, 3), 5, 24);
        stepsAre(s, told(1, 4, 2, 3), 14, 1);
        stepsAre(s, told(1, 0, 2, 3), 4, 10, 1);
        stepsAre(s, told(1, 0, 3, 2), 4, 10, 1, 24, 32, 23);
        stepsAre(s, told(1, 2, 0, 3), 4, 20, 12, 1);
        s.weight(0, 2);
        stepsAre(s, told(1, 0, 2, 3), 14, 1, 10);
        Due.is("the places stay", s.places(), told(0, 1, 2, 3));
        stepsAre(new ShopsOnFloor(), 0);
        s = Floors.weighed(6, 1, 1, 1, 1, 1);
        stepsAre(s, told(1, 0, 3, 4, 2), 5, 10, 1, 25, 42, 34, 23);
    }

    private static void badAims() {
        ShopsOnFloor s = Floors.weighed(4, 1, 1, 1);
        int[] bad = {-1, Integer.MIN_VALUE, Integer.MAX_VALUE, told(0, 0, 1), told(0, 1, 4), told(0, 1, 2) + 216};
        for (int aim : bad) {
            Due.is("move " + aim, s.move(aim), BAD);
            Due.is("step " + aim, s.step(aim, 0), BAD);
        }
        Due.is("step -1", s.step(told(0, 1, 3), -1), BAD);
        Due.is("step of a full floor, -1", Floors.weighed(1, 1).step(0, Integer.MIN_VALUE), BAD);
        Due.is("the places stay", s.places(), told(0, 1, 2));
    }

    /** Promises 24 and 25: two shops near each other, then far, then near. */
    private static void plans() {
        ShopsOnFloor s = Floors.weighed(6, 10, 6);
        s.load(0, 0, 1, 1);
        s.load(1, 0, 1, 9);
        Due.is("one year", s.plan(1), 1);
        Due.is("its places", s.planned(1, 0), told(0, 1));
        Due.is("two years", s.plan(2), 10);
        Due.is("they stay", s.planned(2, 1), told(0, 1));
        s = Floors.weighed(4, 10, 6, 8);
        s.load(0, 0, 1, 30);
        s.load(0, 1, 2, 30);
        s.load(1, 1, 0, 30);
        s.load(1, 0, 2, 30);
        Due.is("the year's best alone", s.planned(1, 0), told(0, 1, 2));
        Due.is("shop 2 goes", s.plan(2), 60 + 60 + 8);
        Due.is("first year: shop 1 between", s.planned(2, 0), told(1, 2, 3));
        Due.is("second year: shop 0 between", s.planned(2, 1), told(1, 2, 0));
        Due.is("third year costs nothing", s.plan(3), 128);
        Due.is("nobody goes in it", s.planned(3, 2), told(1, 2, 0));
        s.weight(0, 50);
        s.weight(1, 50);
        s.weight(2, 50);
        s.load(0, 0, 1, 1);
        s.load(0, 1, 2, 1);
        Due.is("the lighter year gives way", s.plan(2), 60 + 1 + 4);
        Due.is("it stays", s.planned(2, 0), s.planned(2, 1));
        Due.is("the places at hand are not asked", s.places(), told(0, 1, 2));
    }

    private static void plansTakeTheFirst() {
        ShopsOnFloor s = Floors.weighed(3, 1);
        s.put(2);
        for (int n = 1; n <= 4; n++) {
            Due.is("nothing costs", s.plan(n), 0);
            for (int y = 0; y < n; y++) {
                Due.is("slot 0 is first", s.planned(n, y), 0);
            }
        }
        s = Floors.weighed(4, 1, 1);
        s.load(1, 0, 1, 50);
        s.wish(0, 1, false, 1);
        Due.is("the first by shop 0", s.planned(2, 0), told(0, 1));
        s.load(2, 0, 1, 9);
        s.wish(1, 0, false, 4);
        Due.is("4 apart is the least", s.plan(3), 50 * 4 + 9 * 4);
        Due.is("the first 4 apart", s.planned(3, 0), told(0, 2));
        Due.is("and it stays", s.planned(3, 2), told(0, 2));
        Due.is("no loads in the year: 4 or 5 apart", s.planned(1, 0), told(0, 2));
    }

    private static void plansWithoutRightPlaces() {
        ShopsOnFloor s = Floors.weighed(3, 1, 1);
        s.wish(0, 1, true, 0);
        for (int n = 1; n <= 4; n++) {
            Due.is("no plan", s.plan(n), NONE);
            Due.is("no places", s.planned(n, n - 1), NONE);
        }
        s.unwish(0);
        Due.is("a plan again", s.plan(4), 0);
        s.wish(0, 1, false, 3);
        for (int x = 0; x < 3; x++) {
            s.column(x, 1, true);
        }
        s.load(2, 0, 1, 1);
        s.column(3, 0, true);
        Due.is("two years without loads", s.plan(2), 0);
        Due.is("the first are apart without a way", s.planned(2, 1), told(0, 2));
        Due.is("the third year has none", s.plan(3), NONE);
        Due.is("so the first has none", s.planned(3, 0), NONE);
        Due.is("nor have four years", s.planned(4, 0), NONE);
        Due.is("two years still have", s.plan(2), 0);
    }

    /** Whatever a plan hangs on may change between two calls. */
    private static void plansForgetNothing() {
        ShopsOnFloor s = Floors.weighed(3, 1, 1);
        s.load(0, 0, 1, 2);
        Due.is("plan", s.plan(1), 2);
        s.load(0, 0, 1, 3);
        Due.is("plan after load", s.plan(1), 3);
        s.wish(0, 1, false, 2);
        Due.is("plan after wish", s.plan(1), 12);
        s.column(1, 1, true);
        Due.is("plan after column", s.plan(1), 18);
        s.slot(5, 5);
        Due.is("plan after slot", s.plan(1), 18);
        s.slot(4, 4);
        Due.is("plan after slot", s.plan(1), 6);
        s.unwish(0);
        Due.is("plan after unwish", s.plan(1), 3);
        s.bound(40);
        Due.is("plan after bound", s.plan(1), NONE);
        s.exit(4, 5, true);
        Due.is("plan after exit: slot 1 is closed in", s.plan(1), 6);
        s.bound(1);
        Due.is("the two at the exit", s.planned(1, 0), told(3, 4));
        s.shop();
        Due.is("plan after shop", s.plan(1), NONE);
        s.bound(41);
        s.load(1, 0, 1, 0);
        s.load(1, 0, 2, 9);
        s.load(1, 1, 2, 9);
        int light = s.plan(2);
        s.weight(0, 50);
        s.weight(1, 50);
        s.weight(2, 50);
        Due.is("plan after weight", s.plan(2) > light ? 1 : 0, 1);
        s.put(told(4, 3, 2));
        Due.is("put is not asked", s.planned(1, 0), told(0, 1, 2));
    }

    private static void badPlans() {
        ShopsOnFloor s = Floors.weighed(3, 1, 1);
        int[] bad = {0, 5, -1, Integer.MAX_VALUE, Integer.MIN_VALUE};
        for (int n : bad) {
            Due.is("plan " + n, s.plan(n), BAD);
            Due.is("planned " + n, s.planned(n, 0), BAD);
        }
        for (int n = 1; n <= 4; n++) {
            Due.is("planned " + n + " -1", s.planned(n, -1), BAD);
            Due.is("planned " + n + " " + n, s.planned(n, n), BAD);
            Due.is("planned " + n + " last", s.planned(n, n - 1), told(0, 1));
        }
        s.wish(0, 1, true, 0);
        Due.is("BAD is ahead of NONE", s.planned(2, 2), BAD);
        Due.is("no shops", new ShopsOnFloor().plan(4), 0);
        Due.is("no shops", new ShopsOnFloor().planned(4, 3), 0);
    }

    /** Promise 26. */
    private static void counts() {
        ShopsOnFloor s = Floors.weighed(5, 1, 1, 1);
        s.wish(0, 1, true, 5);
        s.wish(0, 2, true, 5);
        s.column(0, 3, true);
        s.column(5, 3, true);
        s.column(2, 3, true);
        s.column(3, 3, true);
        s.exit(1, 1, true);
        Due.is("slots", s.count(0), 5);
        Due.is("shops", s.count(1), 3);
        Due.is("wishes", s.count(2), 2);
        Due.is("columns", s.count(3), 4);
        Due.is("exits", s.count(4), 1);
        Due.is("count(5)", s.count(5), BAD);
        Due.is("count(-1)", s.count(-1), BAD);
        Due.is("count(MIN)", s.count(Integer.MIN_VALUE), BAD);
    }
}
