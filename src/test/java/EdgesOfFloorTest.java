/** The boundary cases of promises 1 to 7, each in a function named after its promise and the case. */
public final class EdgesOfFloorTest {
    private static final int NONE = -1, BAD = -2, NOT = -3, FULL = -4;

    public static void main(String[] args) {
        Due.cases(EdgesOfFloorTest.class);
        Due.end();
    }

    static void promise01_theConstants() {
        Due.is("NONE", ShopsOnFloor.NONE, -1);
        Due.is("BAD", ShopsOnFloor.BAD, -2);
        Due.is("NOT", ShopsOnFloor.NOT, -3);
        Due.is("FULL", ShopsOnFloor.FULL, -4);
    }

    static void promise01_aislesAlone() {
        ShopsOnFloor s = new ShopsOnFloor();
        for (int what = 0; what <= 4; what++) {
            Due.is("count(" + what + ")", s.count(what), 0);
        }
        for (int cell = 0; cell < 36; cell++) {
            Due.is("exit off on cell " + cell, s.exit(cell % 6, cell / 6, false), 0);
        }
    }

    static void promise01_noSlots() {
        ShopsOnFloor s = new ShopsOnFloor();
        Due.is("far(0, 0)", s.far(0, 0), BAD);
        Due.is("out(0)", s.out(0), BAD);
    }

    static void promise01_noShops() {
        ShopsOnFloor s = new ShopsOnFloor();
        Due.is("weight(0, 1)", s.weight(0, 1), BAD);
        Due.is("load(0, 0, 1, 1)", s.load(0, 0, 1, 1), BAD);
        Due.is("wish(0, 1, true, 1)", s.wish(0, 1, true, 1), BAD);
        Due.is("unwish(0)", s.unwish(0), BAD);
        Due.is("places()", s.places(), 0);
    }

    static void promise01_noBoundAsked() {
        Due.is("bound(0)", new ShopsOnFloor().bound(0), 41);
    }

    static void promise01_placesOfNoShops() {
        ShopsOnFloor s = new ShopsOnFloor();
        for (int year = 0; year < 4; year++) {
            Due.is("cost", s.cost(year), 0);
            Due.is("best", s.best(year), 0);
            Due.is("many", s.many(year), 1);
            Due.is("take", s.take(year), 0);
            Due.is("floor", s.floor(year), 0);
            Due.is("settled", s.settled(year), 1);
            Due.is("climb", s.climb(year), 0);
        }
    }

    static void promise01_movesAndPlansOfNoShops() {
        ShopsOnFloor s = new ShopsOnFloor();
        Due.is("move(0)", s.move(0), 0);
        Due.is("step(0, 0)", s.step(0, 0), NONE);
        for (int n = 1; n <= 4; n++) {
            Due.is("plan(" + n + ")", s.plan(n), 0);
            for (int y = 0; y < n; y++) {
                Due.is("planned(" + n + ", " + y + ")", s.planned(n, y), 0);
            }
        }
    }

    static void promise01_objectsShareNothing() {
        ShopsOnFloor empty = new ShopsOnFloor();
        ShopsOnFloor full = Floors.full();
        Due.same("the empty one", View.of(empty), View.of(new ShopsOnFloor()));
        empty.slot(3, 3);
        empty.shop();
        empty.bound(0);
        Due.same("the full one", View.of(full), View.of(Floors.full()));
    }

    static void promise02_columnXOutOfBounds() {
        for (int x : Floors.beside(0, 5)) {
            Refused.everywhere("column(" + x + ", 3, true)", s -> s.column(x, 3, true), BAD);
            Refused.everywhere("column(" + x + ", 3, false)", s -> s.column(x, 3, false), BAD);
        }
    }

    static void promise02_columnYOutOfBounds() {
        for (int y : Floors.beside(0, 5)) {
            Refused.everywhere("column(3, " + y + ", true)", s -> s.column(3, y, true), BAD);
            Refused.everywhere("column(3, " + y + ", false)", s -> s.column(3, y, false), BAD);
        }
    }

    static void promise02_columnAtTheBounds() {
        for (int corner = 0; corner < 4; corner++) {
            ShopsOnFloor s = new ShopsOnFloor();
            int x = corner % 2 * 5;
            int y = corner / 2 * 5;
            Due.is("column", s.column(x, y, true), 1);
            Due.is("columns", s.count(3), 1);
            Due.is("it is no aisle", s.exit(x, y, true), NOT);
        }
    }

    static void promise02_columnOnASlotIsNot() {
        Refused.on(Floors::full, "column(0, 0, true)", s -> s.column(0, 0, true), NOT);
        Refused.on(Floors::full, "column(0, 0, false)", s -> s.column(0, 0, false), NOT);
        Refused.on(Floors::full, "column(5, 5, true)", s -> s.column(5, 5, true), NOT);
        Refused.on(Floors::some, "column(3, 0, true)", s -> s.column(3, 0, true), NOT);
        Refused.on(Floors::some, "column(3, 0, false)", s -> s.column(3, 0, false), NOT);
    }

    static void promise02_columnTwice() {
        ShopsOnFloor s = new ShopsOnFloor();
        Due.is("on", s.column(2, 4, true), 1);
        Due.is("on again", s.column(2, 4, true), 1);
        Due.is("columns", s.count(3), 1);
        Due.is("off", s.column(2, 4, false), 1);
        Due.is("off again", s.column(2, 4, false), 1);
        Due.is("columns by then", s.count(3), 0);
    }

    static void promise02_columnOnAnExitEndsTheExit() {
        ShopsOnFloor s = new ShopsOnFloor();
        s.slot(0, 0);
        s.exit(2, 0, true);
        Due.is("column", s.column(2, 0, true), 1);
        Due.is("exits", s.count(4), 0);
        Due.is("columns", s.count(3), 1);
        Due.is("out", s.out(0), NONE);
    }

    static void promise02_columnOffOnAnExitEndsTheExit() {
        ShopsOnFloor s = new ShopsOnFloor();
        s.slot(0, 0);
        s.exit(2, 0, true);
        Due.is("no column", s.column(2, 0, false), 1);
        Due.is("exits", s.count(4), 0);
        Due.is("columns", s.count(3), 0);
        Due.is("out", s.out(0), NONE);
        Due.is("a slot goes there", s.slot(2, 0), 1);
    }

    static void promise02_columnDoesNotRememberTheExit() {
        ShopsOnFloor s = new ShopsOnFloor();
        s.exit(2, 0, true);
        s.column(2, 0, true);
        s.column(2, 0, false);
        Due.is("exits", s.count(4), 0);
        Due.is("it was none", s.exit(2, 0, false), 0);
    }

    static void promise02_columnsOnAllCells() {
        ShopsOnFloor s = new ShopsOnFloor();
        for (int cell = 0; cell < 36; cell++) {
            Due.is("column on cell " + cell, s.column(cell % 6, cell / 6, true), 1);
            Due.is("columns", s.count(3), cell + 1);
        }
        Due.is("no slot", s.slot(0, 0), NOT);
        Due.is("no exit", s.exit(5, 5, true), NOT);
        for (int cell = 0; cell < 36; cell++) {
            Due.is("no column on cell " + cell, s.column(cell % 6, cell / 6, false), 1);
            Due.is("columns", s.count(3), 35 - cell);
        }
        Due.is("a slot", s.slot(0, 0), 0);
    }

    static void promise02_columnClosesAndOpensTheOnlyWay() {
        ShopsOnFloor s = Floors.snake(0, 23);
        Due.is("open", s.far(0, 1), 23);
        s.column(3, 3, true);
        Due.is("closed", s.far(0, 1), NONE);
        s.column(3, 3, false);
        Due.is("open again", s.far(0, 1), 23);
    }

    static void promise03_slotXOutOfBounds() {
        for (int x : Floors.beside(0, 5)) {
            Refused.everywhere("slot(" + x + ", 3)", s -> s.slot(x, 3), BAD);
        }
    }

    static void promise03_slotYOutOfBounds() {
        for (int y : Floors.beside(0, 5)) {
            Refused.everywhere("slot(3, " + y + ")", s -> s.slot(3, y), BAD);
        }
    }

    static void promise03_slotAtTheBounds() {
        ShopsOnFloor s = new ShopsOnFloor();
        Due.is("slot(0, 0)", s.slot(0, 0), 0);
        Due.is("slot(5, 0)", s.slot(5, 0), 1);
        Due.is("slot(0, 5)", s.slot(0, 5), 2);
        Due.is("slot(5, 5)", s.slot(5, 5), 3);
    }

    static void promise03_slotOnAColumnIsNot() {
        Refused.on(Floors::some, "slot(4, 4)", s -> s.slot(4, 4), NOT);
    }

    static void promise03_slotOnAnExitIsNot() {
        Refused.on(Floors::some, "slot(5, 5)", s -> s.slot(5, 5), NOT);
    }

    static void promise03_slotOnASlotIsNot() {
        Refused.on(Floors::some, "slot(0, 0)", s -> s.slot(0, 0), NOT);
        Refused.on(Floors::some, "slot(3, 0)", s -> s.slot(3, 0), NOT);
    }

    static void promise03_slotTheSixthAndTheSeventh() {
        ShopsOnFloor s = Floors.row(5, 0);
        Due.is("the sixth", s.slot(5, 5), 5);
        Due.is("the seventh", s.slot(4, 4), FULL);
        Due.is("slots", s.count(0), 6);
        Due.is("it is still an aisle", s.exit(4, 4, true), 0);
    }

    static void promise03_slotFullChangesNothing() {
        Refused.on(Floors::full, "slot(3, 3)", s -> s.slot(3, 3), FULL);
        Refused.on(() -> Floors.row(6, 0), "slot(0, 1)", s -> s.slot(0, 1), FULL);
    }

    static void promise03_slotNotIsAheadOfFull() {
        Refused.on(Floors::full, "on a column", s -> s.slot(1, 1), NOT);
        Refused.on(Floors::full, "on an exit", s -> s.slot(5, 3), NOT);
        Refused.on(Floors::full, "on a slot", s -> s.slot(4, 4), NOT);
    }

    static void promise03_slotBadIsAheadOfFull() {
        Due.is("no such cell", Floors.row(6, 0).slot(6, 5), BAD);
        Due.is("no such cell", Floors.row(6, 0).slot(0, -1), BAD);
    }

    static void promise03_slotOnWhatBecameAnAisle() {
        ShopsOnFloor s = new ShopsOnFloor();
        s.column(1, 1, true);
        s.column(1, 1, false);
        s.exit(2, 2, true);
        s.exit(2, 2, false);
        Due.is("a column by then", s.slot(1, 1), 0);
        Due.is("an exit by then", s.slot(2, 2), 1);
    }

    static void promise03_slotLeavesThePlaces() {
        ShopsOnFloor s = Floors.row(3, 3);
        s.put(Floors.told(2, 0, 1));
        Due.is("slot", s.slot(3, 0), 3);
        Due.is("places", s.places(), Floors.told(2, 0, 1));
    }

    static void promise03_slotStandsInTheWay() {
        ShopsOnFloor s = Floors.snake(0, 10);
        Due.is("far", s.far(0, 1), 10);
        Due.is("a slot between", s.slot(5, 0), 2);
        Due.is("no way any more", s.far(0, 1), NONE);
        Due.is("far to the one between", s.far(0, 2), 5);
        Due.is("far from there", s.far(2, 1), 5);
    }

    static void promise04_exitXOutOfBounds() {
        for (int x : Floors.beside(0, 5)) {
            Refused.everywhere("exit(" + x + ", 3, true)", s -> s.exit(x, 3, true), BAD);
            Refused.everywhere("exit(" + x + ", 3, false)", s -> s.exit(x, 3, false), BAD);
        }
    }

    static void promise04_exitYOutOfBounds() {
        for (int y : Floors.beside(0, 5)) {
            Refused.everywhere("exit(3, " + y + ", true)", s -> s.exit(3, y, true), BAD);
            Refused.everywhere("exit(3, " + y + ", false)", s -> s.exit(3, y, false), BAD);
        }
    }

    static void promise04_exitAtTheBounds() {
        ShopsOnFloor s = new ShopsOnFloor();
        for (int corner = 0; corner < 4; corner++) {
            Due.is("exit", s.exit(corner % 2 * 5, corner / 2 * 5, true), 0);
            Due.is("exits", s.count(4), corner + 1);
        }
    }

    static void promise04_exitOnAColumnIsNot() {
        Refused.on(Floors::full, "exit(1, 1, true)", s -> s.exit(1, 1, true), NOT);
        Refused.on(Floors::full, "exit(1, 1, false)", s -> s.exit(1, 1, false), NOT);
    }

    static void promise04_exitOnASlotIsNot() {
        Refused.on(Floors::full, "exit(4, 4, true)", s -> s.exit(4, 4, true), NOT);
        Refused.on(Floors::full, "exit(4, 4, false)", s -> s.exit(4, 4, false), NOT);
    }

    static void promise04_exitTwice() {
        ShopsOnFloor s = new ShopsOnFloor();
        Due.is("off where none was", s.exit(3, 1, false), 0);
        Due.is("on", s.exit(3, 1, true), 0);
        Due.is("on again", s.exit(3, 1, true), 1);
        Due.is("exits", s.count(4), 1);
        Due.is("off", s.exit(3, 1, false), 1);
        Due.is("off again", s.exit(3, 1, false), 0);
        Due.is("exits by then", s.count(4), 0);
    }

    static void promise04_exitsOnAllCells() {
        ShopsOnFloor s = new ShopsOnFloor();
        for (int cell = 0; cell < 36; cell++) {
            Due.is("exit on cell " + cell, s.exit(cell % 6, cell / 6, true), 0);
            Due.is("exits", s.count(4), cell + 1);
        }
        Due.is("no slot", s.slot(2, 2), NOT);
        for (int cell = 0; cell < 36; cell++) {
            Due.is("no exit on cell " + cell, s.exit(cell % 6, cell / 6, false), 1);
        }
        Due.is("exits by then", s.count(4), 0);
    }

    static void promise04_exitOffLeavesAnAisle() {
        ShopsOnFloor s = Floors.snake(0, 2);
        Floors.exitInSnake(s, 1, true);
        Due.is("far over the exit", s.far(0, 1), 2);
        Floors.exitInSnake(s, 1, false);
        Due.is("far over the aisle", s.far(0, 1), 2);
        Due.is("out", s.out(0), NONE);
    }

    static void promise05_farWithoutSlots() {
        for (int a : new int[] {0, 1, -1, 5, 6, Integer.MIN_VALUE, Integer.MAX_VALUE}) {
            Refused.on(ShopsOnFloor::new, "far(" + a + ", " + a + ")", s -> s.far(a, a), BAD);
        }
    }

    static void promise05_farFirstOutOfBounds() {
        for (int slots = 1; slots <= 6; slots++) {
            for (int a : Floors.beside(0, slots - 1)) {
                Due.is(slots + " slots: far(" + a + ", 0)", Floors.row(slots, 0).far(a, 0), BAD);
            }
        }
        Refused.on(Floors::full, "far(6, 0)", s -> s.far(6, 0), BAD);
    }

    static void promise05_farSecondOutOfBounds() {
        for (int slots = 1; slots <= 6; slots++) {
            for (int b : Floors.beside(0, slots - 1)) {
                Due.is(slots + " slots: far(0, " + b + ")", Floors.row(slots, 0).far(0, b), BAD);
            }
        }
        Refused.on(Floors::full, "far(0, -1)", s -> s.far(0, -1), BAD);
    }

    static void promise05_farOfTwoThatAreNone() {
        for (int b : Floors.beside(0, 3)) {
            Due.is("far(" + b + ", " + b + ")", Floors.row(4, 0).far(b, b), BAD);
        }
    }

    static void promise05_farOfTheFirstAndTheLast() {
        ShopsOnFloor s = Floors.row(6, 0);
        Due.is("far(0, 5)", s.far(0, 5), 7);
        Due.is("far(5, 0)", s.far(5, 0), 7);
    }

    static void promise05_farOfOneAndItself() {
        ShopsOnFloor s = Floors.row(6, 0);
        for (int slot = 0; slot < 6; slot++) {
            Due.is("far", s.far(slot, slot), 0);
        }
        Due.is("closed in", Floors.closedIn(0).far(0, 0), 0);
    }

    static void promise05_farWithoutAWay() {
        ShopsOnFloor s = Floors.closedIn(0);
        Due.is("from the closed in", s.far(0, 1), NONE);
        Due.is("to the closed in", s.far(1, 0), NONE);
        Due.is("of others", s.far(1, 2), 2);
    }

    static void promise05_farBadIsAheadOfNone() {
        Due.is("the closed in, and none", Floors.closedIn(0).far(0, 4), BAD);
        Due.is("none, and the closed in", Floors.closedIn(0).far(-1, 0), BAD);
    }

    static void promise06_outWithoutSlots() {
        for (int slot : new int[] {0, -1, 5, 6, Integer.MIN_VALUE, Integer.MAX_VALUE}) {
            Refused.on(ShopsOnFloor::new, "out(" + slot + ")", s -> s.out(slot), BAD);
        }
    }

    static void promise06_outOutOfBounds() {
        for (int slots = 1; slots <= 6; slots++) {
            ShopsOnFloor row = Floors.row(slots, 0);
            row.exit(0, 1, true);
            for (int slot : Floors.beside(0, slots - 1)) {
                Due.is(slots + " slots: out(" + slot + ")", row.out(slot), BAD);
            }
            Due.is("the last", row.out(slots - 1), slots);
        }
        Refused.on(Floors::full, "out(6)", s -> s.out(6), BAD);
        Refused.on(Floors::full, "out(-1)", s -> s.out(-1), BAD);
    }

    static void promise06_outWithoutExits() {
        Due.is("no exit", Floors.row(2, 0).out(0), NONE);
        Due.is("BAD is ahead of NONE", Floors.row(2, 0).out(2), BAD);
    }

    static void promise06_outOfTheClosedIn() {
        ShopsOnFloor s = Floors.closedIn(0);
        s.exit(1, 1, true);
        Due.is("no way to the exit", s.out(0), NONE);
        Due.is("another one", s.out(1), 8);
        s.column(0, 1, false);
        Due.is("opened", s.out(0), 2);
    }

    static void promise06_outSideBySide() {
        ShopsOnFloor s = Floors.snake(4);
        Floors.exitInSnake(s, 5, true);
        Due.is("one step", s.out(0), 1);
    }

    static void promise06_outTheLongestOfAll() {
        ShopsOnFloor s = Floors.snake(0);
        Floors.exitInSnake(s, 23, true);
        Due.is("23 steps", s.out(0), 23);
    }

    static void promise07_boundOutOfBounds() {
        for (int v : Floors.beside(0, 41)) {
            Refused.everywhere("bound(" + v + ")", s -> s.bound(v), BAD);
        }
    }

    static void promise07_boundAtTheBounds() {
        ShopsOnFloor s = new ShopsOnFloor();
        Due.is("bound(0)", s.bound(0), 41);
        Due.is("bound(40)", s.bound(40), 0);
        Due.is("bound(41)", s.bound(41), 40);
        Due.is("bound(41) again", s.bound(41), 41);
    }

    static void promise07_boundRefusedIsNotKept() {
        ShopsOnFloor s = new ShopsOnFloor();
        s.bound(7);
        Due.is("bound(42)", s.bound(42), BAD);
        Due.is("bound(-1)", s.bound(-1), BAD);
        Due.is("which it was", s.bound(7), 7);
    }

    static void promise07_boundEveryOneThereIs() {
        ShopsOnFloor s = new ShopsOnFloor();
        int was = 41;
        for (int v = 0; v <= 41; v++) {
            Due.is("bound(" + v + ")", s.bound(v), was);
            was = v;
        }
    }
}
