/** Promises 1 to 7: the floor. */
public final class FloorTest {
    private static final int NONE = -1, BAD = -2, NOT = -3, FULL = -4;

    public static void main(String[] args) {
        aNewObject();
        columns();
        slots();
        exits();
        fars();
        outs();
        bounds();
        Due.end();
    }

    /** Promise 1. */
    private static void aNewObject() {
        Due.is("NONE", ShopsOnFloor.NONE, NONE);
        Due.is("BAD", ShopsOnFloor.BAD, BAD);
        Due.is("NOT", ShopsOnFloor.NOT, NOT);
        Due.is("FULL", ShopsOnFloor.FULL, FULL);
        ShopsOnFloor s = new ShopsOnFloor();
        for (int what = 0; what < 5; what++) {
            Due.is("new count(" + what + ")", s.count(what), 0);
        }
        Due.is("new places()", s.places(), 0);
        for (int cell = 0; cell < 36; cell++) {
            Due.is("new exit " + cell, s.exit(cell % 6, cell / 6, true), 0);
        }
        Due.is("all cells are exits", s.count(4), 36);
        Due.is("new bound", s.bound(41), 41);
        ShopsOnFloor other = new ShopsOnFloor();
        Due.is("objects share nothing", other.count(4), 0);
    }

    /** Promise 2. */
    private static void columns() {
        ShopsOnFloor s = new ShopsOnFloor();
        int[][] outside = {{-1, 0}, {6, 0}, {0, -1}, {0, 6}, {Integer.MIN_VALUE, 3}, {3, Integer.MAX_VALUE}};
        for (int[] cell : outside) {
            Due.is("column outside", s.column(cell[0], cell[1], true), BAD);
            Due.is("column outside, off", s.column(cell[0], cell[1], false), BAD);
        }
        Due.is("no columns by then", s.count(3), 0);
        Due.is("column(0, 0)", s.column(0, 0, true), 1);
        Due.is("column(5, 5)", s.column(5, 5, true), 1);
        Due.is("column(5, 5) again", s.column(5, 5, true), 1);
        Due.is("two columns", s.count(3), 2);
        Due.is("column(5, 5) off", s.column(5, 5, false), 1);
        Due.is("column(5, 5) off again", s.column(5, 5, false), 1);
        Due.is("one column", s.count(3), 1);
        s.exit(2, 3, true);
        Due.is("an exit becomes a column", s.column(2, 3, true), 1);
        Due.is("no exit by then", s.count(4), 0);
        Due.is("the column becomes an aisle", s.column(2, 3, false), 1);
        Due.is("it is no exit", s.exit(2, 3, true), 0);
        Due.is("an exit becomes an aisle", s.column(2, 3, false), 1);
        Due.is("it is no exit then", s.exit(2, 3, false), 0);
        s.slot(1, 4);
        Due.is("column on a slot", s.column(1, 4, true), NOT);
        Due.is("no column on a slot", s.column(1, 4, false), NOT);
        Due.is("the slot stays", s.count(0), 1);
        Due.is("x and y are not taken for each other", s.column(4, 1, true), 1);
    }

    /** Promise 3. */
    private static void slots() {
        ShopsOnFloor s = new ShopsOnFloor();
        Due.is("slot outside", s.slot(6, 0), BAD);
        Due.is("slot outside", s.slot(-1, 0), BAD);
        Due.is("slot outside", s.slot(0, 6), BAD);
        Due.is("slot outside", s.slot(0, -1), BAD);
        s.column(1, 0, true);
        s.exit(2, 0, true);
        Due.is("slot on a column", s.slot(1, 0), NOT);
        Due.is("slot on an exit", s.slot(2, 0), NOT);
        for (int i = 0; i < 6; i++) {
            Due.is("slot " + i, s.slot(i, 5 - i % 2), i);
            Due.is("slot on a slot", s.slot(i, 5 - i % 2), NOT);
        }
        Due.is("BAD is ahead of FULL", s.slot(6, 6), BAD);
        Due.is("NOT is ahead of FULL, column", s.slot(1, 0), NOT);
        Due.is("NOT is ahead of FULL, exit", s.slot(2, 0), NOT);
        Due.is("NOT is ahead of FULL, slot", s.slot(0, 5), NOT);
        Due.is("seventh slot", s.slot(3, 3), FULL);
        Due.is("six slots", s.count(0), 6);
        Due.is("the refused cell is an aisle", s.exit(3, 3, true), 0);
    }

    /** Promise 4. */
    private static void exits() {
        ShopsOnFloor s = new ShopsOnFloor();
        Due.is("exit outside", s.exit(6, 2, true), BAD);
        Due.is("exit outside", s.exit(2, -1, false), BAD);
        Due.is("exit on", s.exit(3, 2, true), 0);
        Due.is("exit on again", s.exit(3, 2, true), 1);
        Due.is("one exit", s.count(4), 1);
        Due.is("exit off", s.exit(3, 2, false), 1);
        Due.is("exit off again", s.exit(3, 2, false), 0);
        Due.is("no exit", s.count(4), 0);
        s.column(0, 0, true);
        s.slot(1, 0);
        Due.is("exit on a column", s.exit(0, 0, true), NOT);
        Due.is("exit on a slot", s.exit(1, 0, true), NOT);
        Due.is("exit off on a column", s.exit(0, 0, false), NOT);
        Due.is("exit off on a slot", s.exit(1, 0, false), NOT);
        Due.is("column stays", s.count(3), 1);
        Due.is("still no exit", s.count(4), 0);
    }

    /** Promise 5. */
    private static void fars() {
        ShopsOnFloor s = new ShopsOnFloor();
        Due.is("far without slots", s.far(0, 0), BAD);
        s.slot(0, 0);
        s.slot(1, 0);
        s.slot(3, 0);
        Due.is("far of one and itself", s.far(2, 2), 0);
        Due.is("side by side", s.far(0, 1), 1);
        Due.is("and back", s.far(1, 0), 1);
        Due.is("straight", s.far(1, 2), 2);
        Due.is("no way goes over a slot", s.far(0, 2), 5);
        Due.is("far of no slot", s.far(0, 3), BAD);
        Due.is("far of no slot", s.far(3, 0), BAD);
        Due.is("far of no slot", s.far(-1, -1), BAD);
        Due.is("far of no slot", s.far(3, 3), BAD);
        s.exit(2, 0, true);
        Due.is("a way goes over an exit", s.far(1, 2), 2);
        s.column(2, 0, true);
        Due.is("around a column", s.far(1, 2), 4);
        s.column(0, 1, true);
        Due.is("closed in, but side by side", s.far(0, 1), 1);
        Due.is("no way", s.far(0, 2), NONE);
        Due.is("no way back", s.far(2, 0), NONE);
        Due.is("closed in, of itself", s.far(0, 0), 0);
        s.column(0, 1, false);
        Due.is("open again", s.far(0, 2), 5);
        s.slot(0, 1);
        Due.is("a slot closes like a column", s.far(0, 2), NONE);
        longestWay();
    }

    /** A snake of aisles. */
    private static void longestWay() {
        ShopsOnFloor s = new ShopsOnFloor();
        for (int x = 0; x < 5; x++) {
            s.column(x, 1, true);
            s.column(5 - x, 3, true);
        }
        for (int x = 1; x < 6; x++) {
            s.column(x, 5, true);
        }
        s.slot(0, 0);
        s.slot(0, 5);
        Due.is("far through a snake", s.far(0, 1), 15);
        s.exit(1, 4, true);
        Due.is("out through a snake", s.out(0), 15);
        Due.is("out at the snake's end", s.out(1), 2);
        s.column(0, 3, true);
        Due.is("the snake is cut", s.far(1, 0), NONE);
    }

    /** Promise 6. */
    private static void outs() {
        ShopsOnFloor s = new ShopsOnFloor();
        Due.is("out of no slot", s.out(0), BAD);
        s.slot(0, 0);
        s.slot(5, 0);
        Due.is("out of no slot", s.out(2), BAD);
        Due.is("out of no slot", s.out(-1), BAD);
        Due.is("no exit", s.out(0), NONE);
        s.exit(2, 2, true);
        Due.is("out", s.out(0), 4);
        Due.is("out", s.out(1), 5);
        s.exit(0, 1, true);
        Due.is("the nearest exit", s.out(0), 1);
        Due.is("the nearest exit", s.out(1), 5);
        s.exit(0, 1, false);
        Due.is("the exit is no more", s.out(0), 4);
        s.column(1, 0, true);
        s.slot(0, 1);
        Due.is("out goes over aisles alone", s.out(0), NONE);
        Due.is("out of the slot that closes", s.out(2), 3);
        s.column(2, 2, false);
        Due.is("no exit again", s.out(2), NONE);
    }

    /** Promise 7. */
    private static void bounds() {
        ShopsOnFloor s = new ShopsOnFloor();
        Due.is("bound below", s.bound(-1), BAD);
        Due.is("bound above", s.bound(42), BAD);
        Due.is("first bound", s.bound(40), 41);
        Due.is("second bound", s.bound(0), 40);
        Due.is("third bound", s.bound(41), 0);
        Due.is("BAD bounds change nothing", s.bound(42), BAD);
        Due.is("fourth bound", s.bound(41), 41);
        s.slot(0, 0);
        s.shop();
        Due.is("none asked: no exit is needed", s.cost(0), 0);
        s.bound(40);
        Due.is("40 asks for an exit", s.cost(0), NONE);
        s.exit(3, 3, true);
        Due.is("with an exit", s.cost(0), 0);
        s.bound(6);
        Due.is("at the bound", s.cost(0), 0);
        s.bound(5);
        Due.is("behind the bound", s.cost(0), NONE);
        s.slot(3, 2);
        s.put(1);
        Due.is("only a shop's slot counts", s.cost(0), 0);
        s.bound(0);
        Due.is("no slot is an exit", s.cost(0), NONE);
    }
}
