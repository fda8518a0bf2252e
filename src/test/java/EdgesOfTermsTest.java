/** The boundary cases of the document's Terms, sections 1 to 3, each in a function named after its section and the case. */
public final class EdgesOfTermsTest {
    private static final int NONE = -1, BAD = -2, NOT = -3, FULL = -4;

    public static void main(String[] args) {
        Due.cases(EdgesOfTermsTest.class);
        Due.end();
    }

    private static int told(int... slots) {
        return Floors.told(slots);
    }

    static void terms0_the512thCall() {
        ShopsOnFloor s = Floors.row(6, 5);
        for (int call = 12; call <= 511; call++) {
            Due.is("call " + call, s.load(call % 4, 0, 1, call % 100), call < 16 ? 0 : (call - 4) % 100);
        }
        Due.is("the 512th call", s.load(3, 0, 1, 0), 11);
    }

    static void terms1_farOfCellsThatTouchAtACorner() {
        ShopsOnFloor s = new ShopsOnFloor();
        s.slot(2, 2);
        s.slot(3, 3);
        Due.is("side by side alone is a step", s.far(0, 1), 2);
        s.column(2, 3, true);
        s.column(3, 2, true);
        Due.is("around the columns", s.far(0, 1), 6);
    }

    static void terms1_farOnAllFourSides() {
        int[][] sides = {{1, 2}, {3, 2}, {2, 1}, {2, 3}};
        for (int[] side : sides) {
            ShopsOnFloor s = new ShopsOnFloor();
            s.slot(2, 2);
            s.slot(side[0], side[1]);
            Due.is("far", s.far(0, 1), 1);
            Due.is("and back", s.far(1, 0), 1);
        }
    }

    static void terms1_farToEveryCell() {
        for (int cell = 0; cell < 36; cell++) {
            ShopsOnFloor s = new ShopsOnFloor();
            s.slot(2, 3);
            int slot = s.slot(cell % 6, cell / 6);
            if (slot == 1) {
                Due.is("far to cell " + cell, s.far(0, 1), Math.abs(cell % 6 - 2) + Math.abs(cell / 6 - 3));
            } else {
                Due.is("the slot's own cell", cell, 20);
            }
        }
    }

    static void terms1_outToEveryCell() {
        for (int cell = 0; cell < 36; cell++) {
            ShopsOnFloor s = new ShopsOnFloor();
            s.slot(2, 3);
            if (s.exit(cell % 6, cell / 6, true) == 0) {
                Due.is("out to cell " + cell, s.out(0), Math.abs(cell % 6 - 2) + Math.abs(cell / 6 - 3));
            } else {
                Due.is("the slot's own cell", cell, 20);
            }
        }
    }

    static void terms1_farDoesNotGoAroundTheFloorsEdges() {
        for (int at = 0; at < 5; at++) {
            ShopsOnFloor s = new ShopsOnFloor();
            s.slot(5, at);
            s.slot(0, at + 1);
            Due.is("from a row's end to the next one's begin", s.far(0, 1), 6);
            s.slot(0, at);
            Due.is("from a row's end to its begin", s.far(0, 2), 5);
        }
        for (int x = 0; x < 6; x++) {
            ShopsOnFloor s = new ShopsOnFloor();
            s.slot(x, 0);
            s.slot(x, 5);
            Due.is("from top to bottom", s.far(0, 1), 5);
        }
    }

    static void terms1_farWithAWallAcross() {
        ShopsOnFloor s = new ShopsOnFloor();
        s.slot(5, 2);
        s.slot(0, 3);
        for (int y = 0; y < 6; y++) {
            Due.is("open", s.far(0, 1) > 0 ? 1 : 0, 1);
            s.column(3, y, true);
        }
        Due.is("closed", s.far(0, 1), NONE);
    }

    static void terms1_farOverAnExit() {
        ShopsOnFloor s = Floors.snake(0, 2);
        Floors.exitInSnake(s, 1, true);
        Due.is("an exit is an aisle", s.far(0, 1), 2);
    }

    static void terms1_farNotOverASlot() {
        Due.is("a slot is no aisle", Floors.snake(0, 5, 9).far(0, 2), NONE);
    }

    static void terms1_farOfEveryLength() {
        for (int steps = 1; steps <= 23; steps++) {
            Due.is("far", Floors.snake(0, steps).far(0, 1), steps);
            Due.is("and back", Floors.snake(0, steps).far(1, 0), steps);
        }
    }

    static void terms1_outNotOverASlot() {
        ShopsOnFloor s = Floors.snake(0, 5);
        Floors.exitInSnake(s, 9, true);
        Due.is("a slot stands between", s.out(0), NONE);
        Due.is("the one between", s.out(1), 4);
    }

    static void terms1_outOverAnExit() {
        ShopsOnFloor s = Floors.snake(0);
        Floors.exitInSnake(s, 3, true);
        Floors.exitInSnake(s, 7, true);
        Due.is("the nearest", s.out(0), 3);
        Floors.exitInSnake(s, 3, false);
        Due.is("the other", s.out(0), 7);
    }

    static void terms1_outOfTwoThatAreAsNear() {
        ShopsOnFloor s = Floors.snake(5);
        Floors.exitInSnake(s, 3, true);
        Floors.exitInSnake(s, 7, true);
        Due.is("two exits 2 away", s.out(0), 2);
    }

    static void terms1_nearAtEveryNumber() {
        for (int steps = 1; steps <= 23; steps++) {
            for (int d = 0; d <= 20; d++) {
                ShopsOnFloor s = Floors.snake(0, steps);
                s.wish(0, 1, true, d);
                Due.is(steps + " steps, near " + d, s.cost(0), steps <= d ? 0 : NONE);
            }
        }
    }

    static void terms1_apartAtEveryNumber() {
        for (int steps = 1; steps <= 23; steps++) {
            for (int d = 0; d <= 20; d++) {
                ShopsOnFloor s = Floors.snake(0, steps);
                s.wish(1, 0, false, d);
                Due.is(steps + " steps, apart " + d, s.cost(0), steps >= d ? 0 : NONE);
            }
        }
    }

    static void terms1_nearWithoutAWay() {
        for (int d = 0; d <= 20; d++) {
            ShopsOnFloor s = Floors.closedIn(2);
            s.wish(0, 1, true, d);
            Due.is("near " + d, s.cost(0), NONE);
        }
    }

    static void terms1_apartWithoutAWay() {
        for (int d = 0; d <= 20; d++) {
            ShopsOnFloor s = Floors.closedIn(2);
            s.wish(0, 1, false, d);
            Due.is("apart " + d, s.cost(0), 0);
        }
    }

    static void terms1_twoWishesMustBothBeMet() {
        ShopsOnFloor s = Floors.row(6, 2);
        s.wish(0, 1, true, 4);
        s.wish(1, 0, false, 4);
        Due.is("4 apart: four twos of slots, both ways about", s.many(0), 8);
    }

    static void terms1_theLastOfSixWishesMustBeMet() {
        ShopsOnFloor s = Floors.row(6, 2);
        for (int wish = 0; wish < 5; wish++) {
            s.wish(0, 1, true, 20);
        }
        Due.is("five are met", s.cost(0), 0);
        s.wish(0, 1, false, 2);
        Due.is("the sixth is not", s.cost(0), NONE);
    }

    static void terms1_wishesAreOfAllYears() {
        ShopsOnFloor s = Floors.row(3, 2);
        s.wish(0, 1, false, 4);
        for (int year = 0; year < 4; year++) {
            Due.is("not right", s.cost(year), NONE);
        }
    }

    static void terms1_rightAtEveryBound() {
        for (int steps = 1; steps <= 23; steps++) {
            ShopsOnFloor s = Floors.snake(0);
            Floors.exitInSnake(s, steps, true);
            for (int v = 0; v <= 41; v++) {
                s.bound(v);
                Due.is("out " + steps + ", bound " + v, s.cost(0), steps <= v ? 0 : NONE);
            }
        }
    }

    static void terms1_rightWithoutAnExit() {
        ShopsOnFloor s = Floors.row(2, 1);
        for (int v = 0; v <= 41; v++) {
            s.bound(v);
            Due.is("bound " + v, s.cost(0), v == 41 ? 0 : NONE);
        }
    }

    static void terms1_rightThoughAFreeSlotHasNoWayOut() {
        ShopsOnFloor s = Floors.closedIn(1);
        s.exit(4, 5, true);
        s.bound(40);
        Due.is("the closed in has no way out", s.cost(0), NONE);
        s.put(1);
        Due.is("it is free by then", s.cost(0), 0);
    }

    static void terms1_rightOfTheLastShopToo() {
        ShopsOnFloor s = Floors.row(5, 5);
        s.exit(0, 1, true);
        s.bound(4);
        Due.is("the last is 5 away", s.cost(0), NONE);
        s.bound(5);
        Due.is("at the bound", s.cost(0), 0);
    }

    static void terms1_rightLoadOfZeroAndOfOneWithoutAWay() {
        ShopsOnFloor s = Floors.closedIn(2);
        s.load(1, 0, 1, 0);
        Due.is("0", s.cost(1), 0);
        s.load(1, 0, 1, 1);
        Due.is("1", s.cost(1), NONE);
        Due.is("another year", s.cost(2), 0);
        s.load(1, 0, 1, 0);
        s.load(1, 1, 0, 1);
        Due.is("1 the other way", s.cost(1), NONE);
    }

    static void terms1_costOfBothWays() {
        ShopsOnFloor s = Floors.snake(0, 4);
        s.load(0, 0, 1, 3);
        s.load(0, 1, 0, 5);
        Due.is("cost", s.cost(0), 8 * 4);
    }

    static void terms1_orderGoesByShopZeroFirst() {
        ShopsOnFloor s = Floors.row(3, 2);
        s.load(0, 0, 1, 1);
        s.put(told(2, 1));
        s.take(0);
        Due.is("(0, 1) is told as 6, (1, 0) as 1", s.places(), 6);
    }

    static void terms1_orderGoesByShopOneThen() {
        ShopsOnFloor s = Floors.row(4, 3);
        s.load(0, 1, 2, 1);
        s.wish(0, 1, false, 4);
        s.take(0);
        Due.is("(0, 2, 1) is ahead of (0, 2, 3) and (0, 3, 2)", s.places(), told(0, 2, 1));
    }

    static void terms1_floorGreatestLoadsTimesLeastFars() {
        ShopsOnFloor s = Floors.snake(0, 5, 9);
        s.load(0, 0, 1, 10);
        s.load(0, 1, 2, 1);
        Due.is("the places at hand", s.cost(0), 10 * 5 + 4);
        Due.is("floor", s.floor(0), 10 * 4 + 5);
        s.load(0, 1, 2, 10);
        Due.is("loads of the same", s.floor(0), 10 * 4 + 10 * 5);
    }

    static void terms2_aNewShopIsOnTheFirstFreeSlot() {
        ShopsOnFloor s = Floors.row(4, 2);
        s.put(told(1, 0));
        s.shop();
        Due.is("slot 2 is free", s.places(), told(1, 0, 2));
        s.put(told(3, 2, 1));
        s.shop();
        Due.is("slot 0 is free", s.places(), told(3, 2, 1, 0));
    }

    static void terms2_settledIfNoChangeCostsLess() {
        ShopsOnFloor s = Floors.row(6, 2);
        s.load(2, 0, 1, 1);
        for (int a = 0; a < 6; a++) {
            for (int b = 0; b < 6; b++) {
                if (a != b) {
                    s.put(told(a, b));
                    Due.is("shops on " + a + " and " + b, s.settled(2), Math.abs(a - b) == 1 ? 1 : 0);
                }
            }
        }
    }

    /** Shops 0 and 2 are side by side in one corner, shop 1 is far from there where there is room for all. */
    static void terms2_settledWhereTwoWouldHaveToGo() {
        ShopsOnFloor s = new ShopsOnFloor();
        s.slot(0, 0);
        s.slot(1, 0);
        s.slot(2, 0);
        s.slot(5, 5);
        s.slot(4, 5);
        Floors.addShops(s, 3);
        s.load(0, 0, 1, 5);
        s.wish(0, 2, true, 1);
        s.put(told(4, 2, 3));
        Due.is("the places at hand", s.cost(0), 35);
        Due.is("no change costs less", s.settled(0), 1);
        Due.is("no climb", s.climb(0), 0);
        Due.is("best", s.best(0), 5);
    }

    static void terms2_climbTakesTheLeastOfAllChanges() {
        ShopsOnFloor s = Floors.row(6, 2);
        s.load(0, 0, 1, 1);
        s.put(told(0, 5));
        Due.is("one change", s.climb(0), 1);
        Due.is("not to (0, 4) and on", s.places(), told(0, 1));
    }

    static void terms2_climbToDearerPlacesIfNotRight() {
        ShopsOnFloor s = Floors.row(6, 2);
        s.load(0, 0, 1, 3);
        s.wish(0, 1, false, 4);
        Due.is("not right", s.cost(0), NONE);
        Due.is("one change", s.climb(0), 1);
        Due.is("(0, 2) is ahead of (3, 1)", s.places(), told(0, 2));
        Due.is("4 apart", s.cost(0), 12);
    }

    static void terms2_climbByExchangesAloneWithoutFreeSlots() {
        ShopsOnFloor s = Floors.row(3, 3);
        s.load(0, 0, 2, 1);
        Due.is("one exchange", s.climb(0), 1);
        Due.is("(0, 2, 1) is ahead of (1, 0, 2)", s.places(), told(0, 2, 1));
    }

    static void terms2_moveOneBehindTheOther() {
        ShopsOnFloor s = Floors.row(4, 3);
        int aim = told(1, 2, 3);
        int[] due = {23, 12, 1, NONE};
        Due.is("move", s.move(aim), 3);
        for (int i = 0; i < due.length; i++) {
            Due.is("step " + i, s.step(aim, i), due[i]);
        }
    }

    static void terms2_moveTheLightestOfARingGoesAside() {
        ShopsOnFloor s = Floors.weighed(6, 50, 1, 1, 50, 50);
        int aim = told(1, 2, 0, 3, 4);
        int[] due = {15, 1, 20, 12, NONE};
        Due.is("move", s.move(aim), 50 + 1 + 1 + 1);
        for (int i = 0; i < due.length; i++) {
            Due.is("step " + i, s.step(aim, i), due[i]);
        }
    }

    static void terms2_moveWithoutAFreeSlot() {
        ShopsOnFloor s = Floors.row(3, 3);
        Due.is("move", s.move(told(1, 0, 2)), NONE);
        Due.is("step", s.step(told(1, 0, 2), 0), NONE);
        Due.is("where they are", s.move(told(0, 1, 2)), 0);
    }

    /** Shop 1 shall be between in year 0, shop 0 in year 2: when the two exchange is free, and costs 2 and 4. */
    static void terms3_planStaysAsLongAsThatComesFirst() {
        ShopsOnFloor s = Floors.weighed(3, 2, 4, 7);
        s.load(0, 0, 1, 9);
        s.load(0, 1, 2, 9);
        s.load(2, 0, 1, 9);
        s.load(2, 0, 2, 9);
        Due.is("plan", s.plan(3), 18 + 6 + 18);
        Due.is("year 0", s.planned(3, 0), told(0, 1, 2));
        Due.is("year 1", s.planned(3, 1), told(0, 1, 2));
        Due.is("year 2", s.planned(3, 2), told(1, 0, 2));
    }

    static void terms3_planGoesAsSoonAsThatComesFirst() {
        ShopsOnFloor s = Floors.weighed(3, 2, 4, 7);
        s.load(0, 0, 1, 9);
        s.load(0, 0, 2, 9);
        s.load(2, 0, 1, 9);
        s.load(2, 1, 2, 9);
        Due.is("plan", s.plan(3), 18 + 6 + 18);
        Due.is("year 0", s.planned(3, 0), told(1, 0, 2));
        Due.is("year 1", s.planned(3, 1), told(0, 1, 2));
        Due.is("year 2", s.planned(3, 2), told(0, 1, 2));
    }

    static void terms3_planOfSeveralTheFirst() {
        for (int n = 1; n <= 4; n++) {
            ShopsOnFloor s = Floors.row(6, 5);
            for (int y = 0; y < n; y++) {
                Due.is("planned(" + n + ", " + y + ")", s.planned(n, y), told(0, 1, 2, 3, 4));
            }
        }
    }

    static void terms3_planDoesNotCountTheYearsBehind() {
        ShopsOnFloor s = Floors.row(3, 2);
        for (int year = 0; year < 4; year++) {
            s.load(year, 0, 1, 1 + year);
        }
        int[] due = {1, 3, 6, 10};
        for (int n = 1; n <= 4; n++) {
            Due.is("plan(" + n + ")", s.plan(n), due[n - 1]);
        }
    }

    static void terms3_refusedInTheirOrder() {
        ShopsOnFloor full = Floors.full();
        Due.is("BAD ahead of FULL", full.slot(6, 0), BAD);
        Due.is("NOT ahead of FULL", full.slot(0, 0), NOT);
        Due.is("FULL", full.slot(3, 3), FULL);
        Due.is("BAD ahead of FULL", full.wish(0, 0, true, 0), BAD);
        Due.is("FULL", full.wish(0, 1, true, 0), FULL);
        Due.is("FULL ahead of NOT for a shop", Floors.row(5, 5).shop(), FULL);
        ShopsOnFloor s = Floors.row(2, 2);
        s.wish(0, 1, true, 0);
        Due.is("BAD ahead of NOT", s.take(4), BAD);
        Due.is("NOT", s.take(3), NOT);
        Due.is("BAD ahead of NONE", s.cost(4), BAD);
        Due.is("NONE", s.cost(3), NONE);
    }
}
