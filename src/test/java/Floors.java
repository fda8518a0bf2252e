/** Floors that tests begin with. */
final class Floors {
    /** The cells of a way that nowhere comes beside itself: the longest there is, of 24 cells. */
    private static final int[][] SNAKE = {{0, 0}, {1, 0}, {2, 0}, {3, 0}, {4, 0}, {5, 0}, {5, 1}, {5, 2}, {4, 2},
        {4, 3}, {3, 3}, {2, 3}, {2, 2}, {1, 2}, {0, 2}, {0, 3}, {0, 4}, {1, 4}, {1, 5}, {2, 5}, {3, 5}, {4, 5}, {5, 5},
        {5, 4}};

    private Floors() {
    }

    /** The number that places are told as. */
    static int told(int... slots) {
        int told = 0;
        for (int i = slots.length - 1; i >= 0; i--) {
            told = told * 6 + slots[i];
        }
        return told;
    }

    /** One below and one above, and the least and the greatest int. */
    static int[] beside(int low, int high) {
        return new int[] {low - 1, high + 1, Integer.MIN_VALUE, Integer.MAX_VALUE};
    }

    /** Slots on y = 0: far of two of them is 1 side by side, else how many numbers they differ, and 2 more. */
    static ShopsOnFloor row(int slots, int shops) {
        ShopsOnFloor s = new ShopsOnFloor();
        for (int slot = 0; slot < slots; slot++) {
            s.slot(slot, 0);
        }
        addShops(s, shops);
        return s;
    }

    /** A row with a shop of each weight. */
    static ShopsOnFloor weighed(int slots, int... weights) {
        ShopsOnFloor s = row(slots, weights.length);
        for (int shop = 0; shop < weights.length; shop++) {
            s.weight(shop, weights[shop]);
        }
        return s;
    }

    /** Slots in row 0 on x = 0, 2, 4 and in row 2 likewise, as many as asked. */
    static ShopsOnFloor spread(int slots, int shops) {
        ShopsOnFloor s = new ShopsOnFloor();
        for (int slot = 0; slot < slots; slot++) {
            s.slot(slot % 3 * 2, slot / 3 * 2);
        }
        addShops(s, shops);
        return s;
    }

    /** Slots on cells of the snake, by how many steps these are from its begin; a shop on each; columns beside it. */
    static ShopsOnFloor snake(int... steps) {
        ShopsOnFloor s = new ShopsOnFloor();
        for (int cell = 0; cell < 36; cell++) {
            s.column(cell % 6, cell / 6, true);
        }
        for (int[] cell : SNAKE) {
            s.column(cell[0], cell[1], false);
        }
        for (int step : steps) {
            s.slot(SNAKE[step][0], SNAKE[step][1]);
        }
        addShops(s, steps.length);
        return s;
    }

    static int exitInSnake(ShopsOnFloor s, int step, boolean is) {
        return s.exit(SNAKE[step][0], SNAKE[step][1], is);
    }

    /** Slot 0 has no way out of its corner; slots 1, 2 and 3 have ways to each other. */
    static ShopsOnFloor closedIn(int shops) {
        ShopsOnFloor s = new ShopsOnFloor();
        s.column(1, 0, true);
        s.column(0, 1, true);
        s.slot(0, 0);
        s.slot(5, 5);
        s.slot(3, 5);
        s.slot(5, 2);
        addShops(s, shops);
        return s;
    }

    /** Neither empty nor full. */
    static ShopsOnFloor some() {
        ShopsOnFloor s = weighed(4, 2, 7);
        s.column(4, 4, true);
        s.exit(5, 5, true);
        s.bound(30);
        s.load(0, 0, 1, 5);
        s.load(2, 1, 0, 99);
        s.wish(0, 1, true, 4);
        s.put(told(3, 1));
        return s;
    }

    /** Six slots, five shops, six wishes; the places at hand are right in each year, but not settled. */
    static ShopsOnFloor full() {
        ShopsOnFloor s = new ShopsOnFloor();
        int[][] slots = {{0, 0}, {2, 0}, {5, 1}, {1, 3}, {4, 4}, {5, 5}};
        for (int[] slot : slots) {
            s.slot(slot[0], slot[1]);
        }
        s.column(1, 1, true);
        s.column(3, 2, true);
        s.column(2, 4, true);
        s.exit(5, 3, true);
        s.exit(0, 5, true);
        s.bound(6);
        addShops(s, 5);
        int[] weights = {3, 1, 50, 7, 2};
        for (int shop = 0; shop < weights.length; shop++) {
            s.weight(shop, weights[shop]);
        }
        addLoads(s);
        s.wish(0, 1, true, 9);
        s.wish(1, 2, false, 2);
        s.wish(2, 3, true, 20);
        s.wish(3, 4, false, 3);
        s.wish(0, 4, true, 8);
        s.wish(2, 0, false, 0);
        s.put(told(1, 4, 2, 5, 0));
        return s;
    }

    private static void addLoads(ShopsOnFloor s) {
        for (int load = 0; load < 80; load++) {
            int year = load / 20;
            int from = load / 4 % 5;
            int to = (from + 1 + load % 4) % 5;
            if ((from + 2 * to + year) % 3 == 0) {
                s.load(year, from, to, 1 + (7 * from + 5 * to + 3 * year) % 20);
            }
        }
    }

    static void addShops(ShopsOnFloor s, int shops) {
        for (int shop = 0; shop < shops; shop++) {
            s.shop();
        }
    }
}
