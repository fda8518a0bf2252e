/**
 * Shops on a floor: their places, what carrying between them costs, the best places,
 * moves from one plan to another one, and plans over several years.
 *
 * All rows are made once, with the object: no call makes an object or an array.
 */
public final class ShopsOnFloor {
    public static final int NONE = -1, BAD = -2, NOT = -3, FULL = -4;

    private static final int SIDE = 6;
    private static final int CELLS = SIDE * SIDE;
    private static final int MOST_SLOTS = 6;
    private static final int MOST_SHOPS = 5;
    private static final int MOST_WISHES = 6;
    private static final int MOST_LOAD = 99;
    private static final int MOST_WEIGHT = 50;
    private static final int MOST_WISHED = 20;
    private static final int NO_BOUND = 41;
    private static final int YEARS = 4;
    /** Places are told as a number with one digit of this base a shop. */
    private static final int BASE = 6;
    /** One above the greatest number that five shops' places can be told as. */
    private static final int TOLD_END = 7776;
    /** Five shops on six slots: 6 * 5 * 4 * 3 * 2. */
    private static final int MOST_PLACES = 720;
    /** Above all that a plan can cost, and far enough below the end of int to add to. */
    private static final int HUGE = 1 << 28;

    private static final int AISLE = 0, COLUMN = 1, SLOT = 2, EXIT = 3;

    private final Ground ground;
    private final Trade trade;
    private final Judge judge;
    private final Lowest lowest;
    private final Chooser chooser;
    private final Climber climber;
    private final Mover mover;
    private final Planner planner;
    private final Seats hand;
    private final Seats aimed;

    public ShopsOnFloor() {
        ground = new Ground();
        trade = new Trade();
        judge = new Judge(ground, trade);
        lowest = new Lowest(ground, trade);
        chooser = new Chooser(ground, trade, judge);
        climber = new Climber(ground, judge);
        mover = new Mover(ground, trade);
        planner = new Planner(ground, trade, judge);
        hand = new Seats();
        aimed = new Seats();
    }

    // ---- the floor

    public int column(int x, int y, boolean is) {
        int cell = cellAt(x, y);
        if (cell == NONE) {
            return BAD;
        }
        if (ground.kindOf(cell) == SLOT) {
            return NOT;
        }
        ground.become(cell, is ? COLUMN : AISLE);
        planner.forget();
        return 1;
    }

    public int slot(int x, int y) {
        int cell = cellAt(x, y);
        if (cell == NONE) {
            return BAD;
        }
        if (ground.kindOf(cell) != AISLE) {
            return NOT;
        }
        if (ground.slots() >= MOST_SLOTS) {
            return FULL;
        }
        planner.forget();
        return ground.addSlot(cell);
    }

    public int exit(int x, int y, boolean is) {
        int cell = cellAt(x, y);
        if (cell == NONE) {
            return BAD;
        }
        int kind = ground.kindOf(cell);
        if (kind != AISLE && kind != EXIT) {
            return NOT;
        }
        ground.become(cell, is ? EXIT : AISLE);
        planner.forget();
        return kind == EXIT ? 1 : 0;
    }

    public int far(int a, int b) {
        if (!ground.hasSlot(a) || !ground.hasSlot(b)) {
            return BAD;
        }
        return ground.wayBetween(a, b);
    }

    public int out(int slot) {
        if (!ground.hasSlot(slot)) {
            return BAD;
        }
        return ground.wayOut(slot);
    }

    public int bound(int v) {
        if (v < 0 || v > NO_BOUND) {
            return BAD;
        }
        planner.forget();
        return ground.changeBound(v);
    }

    // ---- shops

    public int shop() {
        if (trade.shops() >= MOST_SHOPS) {
            return FULL;
        }
        if (ground.slots() <= trade.shops()) {
            return NOT;
        }
        planner.forget();
        hand.addShop(ground.slots());
        return trade.addShop();
    }

    public int load(int year, int from, int to, int v) {
        if (!isYear(year) || !trade.areTwo(from, to) || v < 0 || v > MOST_LOAD) {
            return BAD;
        }
        planner.forget();
        return trade.changeLoad(year, from, to, v);
    }

    public int weight(int shop, int v) {
        if (!trade.hasShop(shop) || v < 1 || v > MOST_WEIGHT) {
            return BAD;
        }
        planner.forget();
        return trade.changeWeight(shop, v);
    }

    public int wish(int a, int b, boolean near, int d) {
        if (!trade.areTwo(a, b) || d < 0 || d > MOST_WISHED) {
            return BAD;
        }
        if (trade.wishes() >= MOST_WISHES) {
            return FULL;
        }
        planner.forget();
        return trade.addWish(a, b, near, d);
    }

    public int unwish(int wish) {
        if (wish < 0 || wish >= trade.wishes()) {
            return BAD;
        }
        planner.forget();
        trade.dropWish(wish);
        return 1;
    }

    // ---- places

    public int put(int places) {
        if (!aimed.read(places, trade.shops(), ground.slots())) {
            return BAD;
        }
        hand.copy(aimed);
        return 1;
    }

    public int places() {
        return hand.told();
    }

    public int cost(int year) {
        if (!isYear(year)) {
            return BAD;
        }
        return judge.costOf(year, hand);
    }

    public int best(int year) {
        if (!isYear(year)) {
            return BAD;
        }
        chooser.search(year);
        return chooser.least();
    }

    public int many(int year) {
        if (!isYear(year)) {
            return BAD;
        }
        chooser.search(year);
        return chooser.howMany();
    }

    public int take(int year) {
        if (!isYear(year)) {
            return BAD;
        }
        chooser.search(year);
        if (chooser.least() == NONE) {
            return NOT;
        }
        hand.copy(chooser.first());
        return chooser.least();
    }

    public int floor(int year) {
        if (!isYear(year)) {
            return BAD;
        }
        return lowest.of(year);
    }

    public int settled(int year) {
        if (!isYear(year)) {
            return BAD;
        }
        boolean right = judge.costOf(year, hand) != NONE;
        return right && !climber.search(year, hand) ? 1 : 0;
    }

    public int climb(int year) {
        if (!isYear(year)) {
            return BAD;
        }
        int changes = 0;
        // The cost falls with every change but the first, so no places come back.
        while (changes < MOST_PLACES && climber.search(year, hand)) {
            hand.copy(climber.found());
            changes++;
        }
        return changes;
    }

    // ---- moves, plans

    public int move(int aim) {
        if (!aimed.read(aim, trade.shops(), ground.slots())) {
            return BAD;
        }
        return mover.least(hand, aimed);
    }

    public int step(int aim, int i) {
        if (i < 0 || !aimed.read(aim, trade.shops(), ground.slots())) {
            return BAD;
        }
        return mover.walk(hand, aimed, i);
    }

    public int plan(int n) {
        if (n < 1 || n > YEARS) {
            return BAD;
        }
        planner.makePlan(n);
        return planner.price();
    }

    public int planned(int n, int y) {
        if (n < 1 || n > YEARS || y < 0 || y >= n) {
            return BAD;
        }
        planner.makePlan(n);
        return planner.toldOf(y);
    }

    public int count(int what) {
        switch (what) {
            case 0:
                return ground.slots();
            case 1:
                return trade.shops();
            case 2:
                return trade.wishes();
            case 3:
                return ground.cellsOf(COLUMN);
            case 4:
                return ground.cellsOf(EXIT);
            default:
                return BAD;
        }
    }

    private static int cellAt(int x, int y) {
        return x < 0 || x >= SIDE || y < 0 || y >= SIDE ? NONE : y * SIDE + x;
    }

    private static boolean isYear(int year) {
        return year >= 0 && year < YEARS;
    }

    /** A row of numbers; the one place where an array is indexed, so that no index goes untested. */
    private static final class Row {
        private final int[] numbers;

        Row(int length) {
            numbers = new int[length < 0 ? 0 : length];
        }

        int get(int i) {
            return i < 0 || i >= numbers.length ? 0 : numbers[i];
        }

        void set(int i, int number) {
            if (i >= 0 && i < numbers.length) {
                numbers[i] = number;
            }
        }
    }

    /** The cells, the slots among them, and how far they lie. */
    private static final class Ground {
        private final Row kinds = new Row(CELLS);
        private final Row slotCells = new Row(MOST_SLOTS);
        private final Row ways = new Row(MOST_SLOTS * MOST_SLOTS);
        private final Row outs = new Row(MOST_SLOTS);
        private final Row steps = new Row(CELLS);
        private final Row waiting = new Row(CELLS);
        private int waitingEnd = 0;
        private int slotCount = 0;
        private int exitBound = NO_BOUND;

        int kindOf(int cell) {
            return kinds.get(cell);
        }

        int slots() {
            return slotCount;
        }

        boolean hasSlot(int slot) {
            return slot >= 0 && slot < slotCount;
        }

        int cellsOf(int kind) {
            int cells = 0;
            for (int cell = 0; cell < CELLS; cell++) {
                if (kinds.get(cell) == kind) {
                    cells++;
                }
            }
            return cells;
        }

        int wayBetween(int a, int b) {
            return ways.get(a * MOST_SLOTS + b);
        }

        int wayOut(int slot) {
            return outs.get(slot);
        }

        int changeBound(int bound) {
            int old = exitBound;
            exitBound = bound;
            return old;
        }

        boolean isOutNear(int slot) {
            int way = outs.get(slot);
            return exitBound == NO_BOUND || way != NONE && way <= exitBound;
        }

        void become(int cell, int kind) {
            kinds.set(cell, kind);
            measure();
        }

        int addSlot(int cell) {
            int slot = slotCount;
            slotCells.set(slot, cell);
            slotCount++;
            become(cell, SLOT);
            return slot;
        }

        private void measure() {
            for (int slot = 0; slot < slotCount; slot++) {
                flood(slotCells.get(slot));
                for (int other = 0; other < slotCount; other++) {
                    ways.set(slot * MOST_SLOTS + other, steps.get(slotCells.get(other)));
                }
                outs.set(slot, nearestExit());
            }
        }

        /** Fills steps: how many there are from the cell to each cell, NONE where there is no way. */
        private void flood(int start) {
            for (int cell = 0; cell < CELLS; cell++) {
                steps.set(cell, NONE);
            }
            steps.set(start, 0);
            waiting.set(0, start);
            waitingEnd = 1;
            for (int i = 0; i < waitingEnd && i < CELLS; i++) {
                int cell = waiting.get(i);
                int next = steps.get(cell) + 1;
                int x = cell % SIDE;
                int y = cell / SIDE;
                reach(cellAt(x - 1, y), next);
                reach(cellAt(x + 1, y), next);
                reach(cellAt(x, y - 1), next);
                reach(cellAt(x, y + 1), next);
            }
        }

        /** A slot is reached, but no way goes on from there. */
        private void reach(int cell, int step) {
            if (cell == NONE || steps.get(cell) != NONE || kinds.get(cell) == COLUMN) {
                return;
            }
            steps.set(cell, step);
            if (kinds.get(cell) != SLOT) {
                waiting.set(waitingEnd, cell);
                waitingEnd++;
            }
        }

        private int nearestExit() {
            int nearest = NONE;
            for (int cell = 0; cell < CELLS; cell++) {
                int step = steps.get(cell);
                if (kinds.get(cell) == EXIT && step != NONE && (nearest == NONE || step < nearest)) {
                    nearest = step;
                }
            }
            return nearest;
        }
    }

    /** The shops: loads, weights and wishes. */
    private static final class Trade {
        private final Row loads = new Row(YEARS * MOST_SHOPS * MOST_SHOPS);
        private final Row weights = new Row(MOST_SHOPS);
        private final Row wishOnes = new Row(MOST_WISHES);
        private final Row wishOthers = new Row(MOST_WISHES);
        private final Row wishNears = new Row(MOST_WISHES);
        private final Row wishBounds = new Row(MOST_WISHES);
        private int shopCount = 0;
        private int wishCount = 0;

        int shops() {
            return shopCount;
        }

        int wishes() {
            return wishCount;
        }

        boolean hasShop(int shop) {
            return shop >= 0 && shop < shopCount;
        }

        boolean areTwo(int a, int b) {
            return hasShop(a) && hasShop(b) && a != b;
        }

        int addShop() {
            int shop = shopCount;
            weights.set(shop, 1);
            shopCount++;
            return shop;
        }

        int changeLoad(int year, int from, int to, int v) {
            int at = loadAt(year, from, to);
            int old = loads.get(at);
            loads.set(at, v);
            return old;
        }

        int bothWays(int year, int a, int b) {
            return loads.get(loadAt(year, a, b)) + loads.get(loadAt(year, b, a));
        }

        private static int loadAt(int year, int from, int to) {
            return (year * MOST_SHOPS + from) * MOST_SHOPS + to;
        }

        int weightOf(int shop) {
            return weights.get(shop);
        }

        int changeWeight(int shop, int v) {
            int old = weights.get(shop);
            weights.set(shop, v);
            return old;
        }

        /** What all shops weigh that are elsewhere in the one than in the other. */
        int movedWeight(Seats one, Seats other) {
            int sum = 0;
            for (int shop = 0; shop < shopCount; shop++) {
                if (one.at(shop) != other.at(shop)) {
                    sum += weights.get(shop);
                }
            }
            return sum;
        }

        int addWish(int a, int b, boolean near, int d) {
            int wish = wishCount;
            wishOnes.set(wish, a);
            wishOthers.set(wish, b);
            wishNears.set(wish, near ? 1 : 0);
            wishBounds.set(wish, d);
            wishCount++;
            return wish;
        }

        void dropWish(int gone) {
            for (int wish = gone; wish < wishCount - 1; wish++) {
                wishOnes.set(wish, wishOnes.get(wish + 1));
                wishOthers.set(wish, wishOthers.get(wish + 1));
                wishNears.set(wish, wishNears.get(wish + 1));
                wishBounds.set(wish, wishBounds.get(wish + 1));
            }
            wishCount--;
        }

        int oneOf(int wish) {
            return wishOnes.get(wish);
        }

        int otherOf(int wish) {
            return wishOthers.get(wish);
        }

        /** Whether a way of this many steps, or NONE, meets the wish. */
        boolean isMet(int wish, int way) {
            int d = wishBounds.get(wish);
            if (wishNears.get(wish) == 1) {
                return way != NONE && way <= d;
            }
            return way == NONE || way >= d;
        }
    }

    /** Places: the slot of each shop. */
    private static final class Seats {
        private final Row slotOf = new Row(MOST_SHOPS);
        private int shopCount = 0;

        int shops() {
            return shopCount;
        }

        int at(int shop) {
            return slotOf.get(shop);
        }

        void seat(int shop, int slot) {
            slotOf.set(shop, slot);
        }

        void copy(Seats other) {
            shopCount = other.shopCount;
            for (int shop = 0; shop < shopCount; shop++) {
                slotOf.set(shop, other.slotOf.get(shop));
            }
        }

        /** Which of the shops below the end is on the slot, or NONE. */
        int whoIsAt(int slot, int end) {
            for (int shop = 0; shop < end; shop++) {
                if (slotOf.get(shop) == slot) {
                    return shop;
                }
            }
            return NONE;
        }

        void addShop(int slots) {
            shopCount++;
            seatBehind(shopCount - 1, NONE, slots);
        }

        /** The shop goes to the next slot behind this one (NONE: of all) that no shop of a lower number has. */
        private boolean seatBehind(int shop, int last, int slots) {
            for (int slot = last + 1; slot < slots; slot++) {
                if (whoIsAt(slot, shop) == NONE) {
                    slotOf.set(shop, slot);
                    return true;
                }
            }
            return false;
        }

        int told() {
            int told = 0;
            for (int shop = shopCount - 1; shop >= 0; shop--) {
                told = told * BASE + slotOf.get(shop);
            }
            return told;
        }

        /** Becomes the places told; false, and then half read, where the number tells none. */
        boolean read(int told, int shops, int slots) {
            int rest = told;
            shopCount = shops;
            for (int shop = 0; shop < shops; shop++) {
                int slot = rest % BASE;
                if (slot < 0 || slot >= slots || whoIsAt(slot, shop) != NONE) {
                    return false;
                }
                slotOf.set(shop, slot);
                rest /= BASE;
            }
            return rest == 0;
        }

        /** Becomes the first places of all in their order. */
        void begin(int shops, int slots) {
            shopCount = shops;
            for (int shop = 0; shop < shops; shop++) {
                seatBehind(shop, NONE, slots);
            }
        }

        /** Becomes the next places in their order; false if these are the last. */
        boolean goOn(int slots) {
            int turn = shopCount - 1;
            while (turn >= 0 && !seatBehind(turn, slotOf.get(turn), slots)) {
                turn--;
            }
            for (int shop = turn + 1; turn >= 0 && shop < shopCount; shop++) {
                seatBehind(shop, NONE, slots);
            }
            return turn >= 0;
        }

        boolean comesBefore(Seats other) {
            for (int shop = 0; shop < shopCount; shop++) {
                int here = slotOf.get(shop);
                int there = other.slotOf.get(shop);
                if (here != there) {
                    return here < there;
                }
            }
            return false;
        }
    }

    /** Whether places are right, and what they cost. */
    private static final class Judge {
        private final Ground ground;
        private final Trade trade;

        Judge(Ground ground, Trade trade) {
            this.ground = ground;
            this.trade = trade;
        }

        /** NONE where the places are not right in the year. */
        int costOf(int year, Seats seats) {
            if (!areExitsNear(seats) || !areWishesMet(seats)) {
                return NONE;
            }
            int sum = 0;
            for (int a = 0; a < seats.shops(); a++) {
                for (int b = a + 1; b < seats.shops(); b++) {
                    int carried = trade.bothWays(year, a, b);
                    int way = ground.wayBetween(seats.at(a), seats.at(b));
                    if (carried > 0 && way == NONE) {
                        return NONE;
                    }
                    sum += carried * way;
                }
            }
            return sum;
        }

        private boolean areExitsNear(Seats seats) {
            for (int shop = 0; shop < seats.shops(); shop++) {
                if (!ground.isOutNear(seats.at(shop))) {
                    return false;
                }
            }
            return true;
        }

        private boolean areWishesMet(Seats seats) {
            for (int wish = 0; wish < trade.wishes(); wish++) {
                int one = seats.at(trade.oneOf(wish));
                int other = seats.at(trade.otherOf(wish));
                if (!trade.isMet(wish, ground.wayBetween(one, other))) {
                    return false;
                }
            }
            return true;
        }
    }

    /** How low no cost of a year can go. */
    private static final class Lowest {
        private final Ground ground;
        private final Trade trade;
        /** All loads above 0 and all fars, both least first. */
        private final Row carried = new Row(MOST_SHOPS * MOST_SHOPS);
        private final Row ways = new Row(MOST_SLOTS * MOST_SLOTS);

        Lowest(Ground ground, Trade trade) {
            this.ground = ground;
            this.trade = trade;
        }

        int of(int year) {
            int loads = sortLoads(year);
            if (sortWays() < loads) {
                return NONE;
            }
            int sum = 0;
            for (int i = 0; i < loads; i++) {
                sum += carried.get(loads - 1 - i) * ways.get(i);
            }
            return sum;
        }

        private int sortLoads(int year) {
            int length = 0;
            for (int a = 0; a < trade.shops(); a++) {
                for (int b = a + 1; b < trade.shops(); b++) {
                    int load = trade.bothWays(year, a, b);
                    if (load > 0) {
                        insert(carried, length, load);
                        length++;
                    }
                }
            }
            return length;
        }

        private int sortWays() {
            int length = 0;
            for (int a = 0; a < ground.slots(); a++) {
                for (int b = a + 1; b < ground.slots(); b++) {
                    int way = ground.wayBetween(a, b);
                    if (way != NONE) {
                        insert(ways, length, way);
                        length++;
                    }
                }
            }
            return length;
        }

        private static void insert(Row sorted, int length, int number) {
            int at = length;
            for (; at > 0 && sorted.get(at - 1) > number; at--) {
                sorted.set(at, sorted.get(at - 1));
            }
            sorted.set(at, number);
        }
    }

    /** The best places of a year. */
    private static final class Chooser {
        private final Ground ground;
        private final Trade trade;
        private final Judge judge;
        private final Seats trial = new Seats();
        private final Seats firstBest = new Seats();
        private int leastCost = NONE;
        private int bestCount = 0;

        Chooser(Ground ground, Trade trade, Judge judge) {
            this.ground = ground;
            this.trade = trade;
            this.judge = judge;
        }

        int least() {
            return leastCost;
        }

        int howMany() {
            return bestCount;
        }

        Seats first() {
            return firstBest;
        }

        void search(int year) {
            leastCost = NONE;
            bestCount = 0;
            trial.begin(trade.shops(), ground.slots());
            boolean more = true;
            for (int i = 0; more && i < MOST_PLACES; i++) {
                compare(judge.costOf(year, trial));
                more = trial.goOn(ground.slots());
            }
        }

        private void compare(int cost) {
            if (cost == NONE) {
                return;
            }
            if (leastCost == NONE || cost < leastCost) {
                leastCost = cost;
                bestCount = 0;
                firstBest.copy(trial);
            }
            if (cost == leastCost) {
                bestCount++;
            }
        }
    }

    /** The change that betters places most. */
    private static final class Climber {
        private final Ground ground;
        private final Judge judge;
        private final Seats trial = new Seats();
        private final Seats betterSeats = new Seats();
        private int leastCost = NONE;
        private boolean isFound = false;

        Climber(Ground ground, Judge judge) {
            this.ground = ground;
            this.judge = judge;
        }

        Seats found() {
            return betterSeats;
        }

        /** Whether a change makes right places that cost less, or any where these are not right. */
        boolean search(int year, Seats seats) {
            trial.copy(seats);
            leastCost = judge.costOf(year, trial);
            isFound = false;
            for (int shop = 0; shop < trial.shops(); shop++) {
                for (int slot = 0; slot < ground.slots(); slot++) {
                    tryChange(year, shop, slot);
                }
            }
            return isFound;
        }

        /** The shop goes to the slot, whoever is there goes to the shop's, and both go back. */
        private void tryChange(int year, int shop, int slot) {
            int old = trial.at(shop);
            int other = trial.whoIsAt(slot, trial.shops());
            if (other == shop) {
                return;
            }
            trial.seat(shop, slot);
            if (other != NONE) {
                trial.seat(other, old);
            }
            compare(judge.costOf(year, trial));
            trial.seat(shop, old);
            if (other != NONE) {
                trial.seat(other, slot);
            }
        }

        private void compare(int cost) {
            if (cost == NONE) {
                return;
            }
            boolean isLess = leastCost == NONE || cost < leastCost;
            if (isLess || isFound && cost == leastCost && trial.comesBefore(betterSeats)) {
                leastCost = cost;
                isFound = true;
                betterSeats.copy(trial);
            }
        }
    }

    /** The move that costs least. */
    private static final class Mover {
        /** Five shops at most that go once, and two rings at most that ask for one step more. */
        private static final int MOST_STEPS = 7;

        private final Ground ground;
        private final Trade trade;
        private final Seats trial = new Seats();

        Mover(Ground ground, Trade trade) {
            this.ground = ground;
            this.trade = trade;
        }

        /**
         * What the least move costs, NONE where there is none. Every shop that is not where it
         * shall be goes at least once. Where such shops sit in a ring, each on the slot that the
         * one before shall have, one of them must go aside first; more is never needed, if a
         * slot is free. No step is for nothing, so the cheapest row has the fewest steps, too.
         */
        int least(Seats from, Seats aim) {
            int sum = trade.movedWeight(from, aim);
            if (sum > 0 && ground.slots() <= from.shops()) {
                return NONE;
            }
            for (int shop = 0; shop < from.shops(); shop++) {
                sum += asideWeight(from, aim, shop);
            }
            return sum;
        }

        /** The least weight in the ring whose lowest shop this is, 0 where it is in none so. */
        private int asideWeight(Seats from, Seats aim, int start) {
            int least = trade.weightOf(start);
            int shop = start;
            for (int i = 0; i < MOST_SHOPS; i++) {
                if (from.at(shop) == aim.at(shop)) {
                    return 0;
                }
                shop = from.whoIsAt(aim.at(shop), from.shops());
                if (shop == start) {
                    return least;
                }
                if (shop == NONE || shop < start) {
                    return 0;
                }
                least = Math.min(least, trade.weightOf(shop));
            }
            return 0;
        }

        /** Step i, told as 10 times the shop and the slot it goes to, or NONE. */
        int walk(Seats from, Seats aim, int i) {
            if (i >= MOST_STEPS) {
                return NONE;
            }
            trial.copy(from);
            int told = firstStep(aim);
            for (int gone = 0; gone < i && told != NONE; gone++) {
                told = firstStep(aim);
            }
            return told;
        }

        /** Goes the first step that a least move can begin with, and tells it, or NONE. */
        private int firstStep(Seats aim) {
            int whole = least(trial, aim);
            if (whole <= 0) {
                return NONE;
            }
            for (int shop = 0; shop < trial.shops(); shop++) {
                int rest = whole - trade.weightOf(shop);
                int old = trial.at(shop);
                for (int slot = 0; slot < ground.slots(); slot++) {
                    if (trial.whoIsAt(slot, trial.shops()) == NONE) {
                        trial.seat(shop, slot);
                        if (least(trial, aim) == rest) {
                            return 10 * shop + slot;
                        }
                        trial.seat(shop, old);
                    }
                }
            }
            return NONE;
        }
    }

    /** The best plan of several years. */
    private static final class Planner {
        private final Ground ground;
        private final Trade trade;
        private final Judge judge;
        private final Seats trial = new Seats();
        private final Seats before = new Seats();
        private final Seats chosen = new Seats();
        /** What the years from one on to the last one cost at least, by the year and its places. */
        private final Row onward = new Row(YEARS * MOST_PLACES);
        /** The same of the year last reckoned, with the move there from the places told, which are the index. */
        private final Row ahead = new Row(TOLD_END);
        private final Row chosenTold = new Row(YEARS);
        private int wholePrice = NONE;
        /** For how many years the plan at hand is; 0 where there is none at hand. */
        private int plannedYears = 0;

        Planner(Ground ground, Trade trade, Judge judge) {
            this.ground = ground;
            this.trade = trade;
            this.judge = judge;
        }

        /** To be called ahead of all that a plan may hang on, as the plan at hand is kept. */
        void forget() {
            plannedYears = 0;
        }

        int price() {
            return wholePrice;
        }

        int toldOf(int year) {
            return wholePrice == NONE ? NONE : chosenTold.get(year);
        }

        void makePlan(int n) {
            if (plannedYears == n) {
                return;
            }
            for (int year = n - 1; year >= 0; year--) {
                reckon(year, year == n - 1);
                if (year > 0) {
                    stay(year);
                    letAllMove();
                }
            }
            wholePrice = NONE;
            for (int year = 0; year < n; year++) {
                choose(year);
            }
            plannedYears = n;
        }

        private void reckon(int year, boolean isLast) {
            trial.begin(trade.shops(), ground.slots());
            boolean more = true;
            for (int i = 0; more && i < MOST_PLACES; i++) {
                int cost = judge.costOf(year, trial);
                int later = isLast ? 0 : ahead.get(trial.told());
                onward.set(year * MOST_PLACES + i, cost == NONE ? HUGE : Math.min(HUGE, cost + later));
                more = trial.goOn(ground.slots());
            }
        }

        /** Fills ahead as if no shop moved; numbers that tell no places cost HUGE. */
        private void stay(int year) {
            int end = toldEnd();
            for (int told = 0; told < end; told++) {
                ahead.set(told, HUGE);
            }
            trial.begin(trade.shops(), ground.slots());
            boolean more = true;
            for (int i = 0; more && i < MOST_PLACES; i++) {
                ahead.set(trial.told(), onward.get(year * MOST_PLACES + i));
                more = trial.goOn(ground.slots());
            }
        }

        /**
         * A shop that moves costs its weight wherever it comes from, so the shops can be let move
         * one after the other, over all numbers, also those that tell no places.
         */
        private void letAllMove() {
            int stride = 1;
            int blocks = toldEnd() / BASE;
            for (int shop = 0; shop < trade.shops(); shop++) {
                for (int block = 0; block < blocks; block++) {
                    for (int low = 0; low < stride; low++) {
                        letMove(block * stride * BASE + low, stride, trade.weightOf(shop));
                    }
                }
                stride *= BASE;
                blocks /= BASE;
            }
        }

        /** One above the greatest number that places can be told as: one digit a shop. */
        private int toldEnd() {
            int end = 1;
            for (int shop = 0; shop < trade.shops(); shop++) {
                end *= BASE;
            }
            return end;
        }

        /** Lets one shop move between its slots while all others stay. */
        private void letMove(int start, int stride, int weight) {
            int least = HUGE;
            for (int slot = 0; slot < BASE; slot++) {
                least = Math.min(least, ahead.get(start + slot * stride));
            }
            for (int slot = 0; slot < BASE; slot++) {
                int at = start + slot * stride;
                ahead.set(at, Math.min(ahead.get(at), least + weight));
            }
        }

        /** Chooses the first places of the year that go on from those of the year before at least cost. */
        private void choose(int year) {
            int least = HUGE;
            trial.begin(trade.shops(), ground.slots());
            boolean more = true;
            for (int i = 0; more && i < MOST_PLACES; i++) {
                int moved = year == 0 ? 0 : trade.movedWeight(before, trial);
                int price = onward.get(year * MOST_PLACES + i) + moved;
                if (price < least) {
                    least = price;
                    chosen.copy(trial);
                }
                more = trial.goOn(ground.slots());
            }
            if (year == 0 && least < HUGE) {
                wholePrice = least;
            }
            chosenTold.set(year, chosen.told());
            before.copy(chosen);
        }
    }
}
