/** Long runs of all calls, each answer next to the one of PlainFloor. The runs are the same every time. */
public final class AgainstPlainTest {
    private static final int RUNS = 160;
    private static final int CALLS = 512;

    private long seed;
    private ShopsOnFloor got;
    private PlainFloor want;
    private int calls;
    private String where = "";
    /** How seldom a call draws arguments out of their bounds. */
    private int wildness;
    private int mostLoad;

    public static void main(String[] args) {
        for (int run = 1; run <= RUNS && Due.wrongs() == 0; run++) {
            new AgainstPlainTest().run(run);
        }
        Due.end();
    }

    private int draw(int below) {
        seed = seed * 6364136223846793005L + 1442695040888963407L;
        return (int) Math.floorMod(seed >>> 33, (long) below);
    }

    /** A number from low to high, or now and then one beside them. */
    private int from(int low, int high) {
        if (draw(wildness) == 0) {
            int[] wild = {low - 1, high + 1, Integer.MIN_VALUE, Integer.MAX_VALUE, low - 7, high + 36};
            return wild[draw(wild.length)];
        }
        return high < low ? low : low + draw(high - low + 1);
    }

    private void run(int number) {
        seed = number * 7919L;
        got = new ShopsOnFloor();
        want = new PlainFloor();
        wildness = 10 + draw(60);
        mostLoad = draw(3) == 0 ? 99 : 2 + draw(8);
        furnish(number);
        // A call may be followed by a look at the places, and no more than CALLS are promised.
        while (calls + 2 <= CALLS && Due.wrongs() == 0) {
            where = "run " + number + ", call " + calls + ": ";
            call();
        }
    }

    /** Half of the runs begin with a floor that has slots and shops, so that much is asked of full ones. */
    private void furnish(int number) {
        where = "run " + number + ", furnishing: ";
        for (int i = draw(7); i > 0; i--) {
            column(draw(6), draw(6), true);
        }
        int most = number % 2 == 0 ? 6 : draw(7);
        for (int i = 0; i < 14 && want.count(0) < most; i++) {
            slot(draw(number % 3 == 0 ? 3 : 6), draw(6));
        }
        for (int i = draw(6); i > 0; i--) {
            shop();
        }
        for (int i = draw(24); i > 0; i--) {
            load(draw(4), draw(5), draw(5), draw(mostLoad + 1));
        }
        for (int i = draw(4); i > 0; i--) {
            exit(draw(6), draw(6), true);
        }
    }

    private void call() {
        int kind = draw(100);
        if (kind < 12) {
            callOfFloor();
        } else if (kind < 36) {
            callOfShops();
        } else if (kind < 72) {
            callOfPlaces();
        } else {
            callOfPlans();
        }
    }

    private void callOfFloor() {
        switch (draw(14)) {
            case 0, 1 -> column(from(0, 5), from(0, 5), draw(3) == 0);
            case 2 -> slot(from(0, 5), from(0, 5));
            case 3, 4, 5 -> exit(from(0, 5), from(0, 5), draw(4) != 0);
            case 6, 7, 8 -> is("far", far(from(0, want.count(0) - 1), from(0, want.count(0) - 1)));
            case 9, 10 -> is("out", out(from(0, want.count(0) - 1)));
            default -> bound(draw(3) == 0 ? from(0, 41) : 41 - draw(2));
        }
    }

    private void callOfShops() {
        int shops = want.count(1) - 1;
        switch (draw(10)) {
            case 0 -> shop();
            case 1, 2, 3, 4, 5 -> load(from(0, 3), from(0, shops), from(0, shops), from(0, mostLoad));
            case 6 -> weight(from(0, shops), draw(2) == 0 ? from(1, 50) : from(1, 4));
            case 7 -> wish(from(0, shops), from(0, shops), draw(2) == 0, draw(4) == 0 ? from(0, 20) : from(1, 6));
            default -> unwish(from(0, want.count(2) - 1));
        }
    }

    private int somePlaces() {
        if (draw(wildness) == 0) {
            return from(0, 7776);
        }
        int told = 0;
        int worth = 1;
        boolean[] taken = new boolean[6];
        for (int shop = 0; shop < want.count(1); shop++) {
            int slot = draw(want.count(0));
            while (taken[slot]) {
                slot = (slot + 1) % want.count(0);
            }
            taken[slot] = true;
            told += worth * slot;
            worth *= 6;
        }
        return told;
    }

    private void callOfPlaces() {
        int year = from(0, 3);
        switch (draw(12)) {
            case 0, 1, 2 -> put(somePlaces());
            case 3 -> is("cost " + year, pair(got.cost(year), want.cost(year)));
            case 4 -> is("best " + year, pair(got.best(year), want.best(year)));
            case 5 -> is("many " + year, pair(got.many(year), want.many(year)));
            case 6 -> is("take " + year, pair(got.take(year), want.take(year)));
            case 7 -> is("floor " + year, pair(got.floor(year), want.floor(year)));
            case 8, 9 -> is("settled " + year, pair(got.settled(year), want.settled(year)));
            default -> is("climb " + year, pair(got.climb(year), want.climb(year)));
        }
        is("places", pair(got.places(), want.places()));
    }

    private void callOfPlans() {
        int aim = somePlaces();
        int n = from(1, 4);
        switch (draw(16)) {
            case 0, 1, 2, 3 -> is("move " + aim, pair(got.move(aim), want.move(aim)));
            case 4, 5, 6, 7, 8 -> {
                int i = from(0, 7);
                is("step " + aim + " " + i, pair(got.step(aim, i), want.step(aim, i)));
            }
            case 9, 10 -> is("plan " + n, pair(got.plan(n), want.plan(n)));
            case 11 -> {
                int y = from(0, n - 1);
                is("planned " + n + " " + y, pair(got.planned(n, y), want.planned(n, y)));
            }
            case 12 -> is("places", pair(got.places(), want.places()));
            default -> {
                int what = from(0, 4);
                is("count " + what, pair(got.count(what), want.count(what)));
            }
        }
    }

    private static int[] pair(int got, int want) {
        return new int[] {got, want};
    }

    private void is(String call, int[] pair) {
        calls++;
        Due.is(where + call, pair[0], pair[1]);
    }

    private void column(int x, int y, boolean is) {
        is("column " + x + " " + y + " " + is, pair(got.column(x, y, is), want.column(x, y, is)));
    }

    private void slot(int x, int y) {
        is("slot " + x + " " + y, pair(got.slot(x, y), want.slot(x, y)));
    }

    private void exit(int x, int y, boolean is) {
        is("exit " + x + " " + y + " " + is, pair(got.exit(x, y, is), want.exit(x, y, is)));
    }

    private int[] far(int a, int b) {
        return pair(got.far(a, b), want.far(a, b));
    }

    private int[] out(int slot) {
        return pair(got.out(slot), want.out(slot));
    }

    private void bound(int v) {
        is("bound " + v, pair(got.bound(v), want.bound(v)));
    }

    private void shop() {
        is("shop", pair(got.shop(), want.shop()));
    }

    private void load(int year, int from, int to, int v) {
        is("load " + year + " " + from + " " + to + " " + v,
                pair(got.load(year, from, to, v), want.load(year, from, to, v)));
    }

    private void weight(int shop, int v) {
        is("weight " + shop + " " + v, pair(got.weight(shop, v), want.weight(shop, v)));
    }

    private void wish(int a, int b, boolean near, int d) {
        is("wish " + a + " " + b + " " + near + " " + d, pair(got.wish(a, b, near, d), want.wish(a, b, near, d)));
    }

    private void unwish(int wish) {
        is("unwish " + wish, pair(got.unwish(wish), want.unwish(wish)));
    }

    private void put(int told) {
        is("put " + told, pair(got.put(told), want.put(told)));
    }
}
