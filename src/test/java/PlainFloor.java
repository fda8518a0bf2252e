import java.util.ArrayList;
import java.util.Arrays;
import java.util.Collections;
import java.util.Comparator;
import java.util.HashMap;
import java.util.List;
import java.util.Map;
import java.util.PriorityQueue;

/**
 * The document once more, said as plainly as Java and its library allow and in other ways than
 * the class does: all places are listed, moves and plans are searched whole.
 */
final class PlainFloor {
    private static final int NONE = -1, BAD = -2, NOT = -3, FULL = -4;

    /** One wish of near (or apart). */
    private record Wish(int a, int b, boolean near, int d) {
    }

    /** A row of steps or of places that leads somewhere, and what it costs. */
    private record Road(int cost, List<Integer> row, List<Integer> end) {
    }

    private static final Comparator<List<Integer>> ORDER = PlainFloor::compareRows;

    private final char[][] cells = new char[6][6];
    private final List<int[]> slots = new ArrayList<>();
    private final List<Integer> weights = new ArrayList<>();
    private final int[][][] loads = new int[4][5][5];
    private final List<Wish> wishes = new ArrayList<>();
    private List<Integer> hand = new ArrayList<>();
    private int bound = 41;
    private int[][] fars = new int[0][0];
    private int[] outs = new int[0];

    PlainFloor() {
        for (char[] row : cells) {
            Arrays.fill(row, '.');
        }
    }

    private static int compareRows(List<Integer> a, List<Integer> b) {
        for (int i = 0; i < Math.min(a.size(), b.size()); i++) {
            if (!a.get(i).equals(b.get(i))) {
                return a.get(i) - b.get(i);
            }
        }
        return a.size() - b.size();
    }

    private static boolean isCell(int x, int y) {
        return 0 <= x && x <= 5 && 0 <= y && y <= 5;
    }

    private boolean isAisle(int x, int y) {
        return isCell(x, y) && (cells[x][y] == '.' || cells[x][y] == 'E');
    }

    int column(int x, int y, boolean is) {
        if (!isCell(x, y)) {
            return BAD;
        }
        if (cells[x][y] == 'S') {
            return NOT;
        }
        cells[x][y] = is ? '#' : '.';
        measure();
        return 1;
    }

    int slot(int x, int y) {
        if (!isCell(x, y)) {
            return BAD;
        }
        if (cells[x][y] != '.') {
            return NOT;
        }
        if (slots.size() == 6) {
            return FULL;
        }
        cells[x][y] = 'S';
        slots.add(new int[] {x, y});
        measure();
        return slots.size() - 1;
    }

    int exit(int x, int y, boolean is) {
        if (!isCell(x, y)) {
            return BAD;
        }
        if (!isAisle(x, y)) {
            return NOT;
        }
        int was = cells[x][y] == 'E' ? 1 : 0;
        cells[x][y] = is ? 'E' : '.';
        measure();
        return was;
    }

    /** Steps from a slot to every cell, found by trying again until nothing gets nearer. */
    private int[][] stepsFrom(int[] start) {
        int[][] steps = new int[6][6];
        for (int[] row : steps) {
            Arrays.fill(row, 1000);
        }
        steps[start[0]][start[1]] = 0;
        boolean again = true;
        while (again) {
            again = false;
            for (int x = 0; x < 6; x++) {
                for (int y = 0; y < 6; y++) {
                    boolean mayGoOn = x == start[0] && y == start[1] || isAisle(x, y);
                    int[][] sides = {{x + 1, y}, {x - 1, y}, {x, y + 1}, {x, y - 1}};
                    for (int[] side : sides) {
                        if (mayGoOn && isCell(side[0], side[1]) && cells[side[0]][side[1]] != '#'
                                && steps[side[0]][side[1]] > steps[x][y] + 1) {
                            steps[side[0]][side[1]] = steps[x][y] + 1;
                            again = true;
                        }
                    }
                }
            }
        }
        return steps;
    }

    private void measure() {
        fars = new int[slots.size()][slots.size()];
        outs = new int[slots.size()];
        for (int a = 0; a < slots.size(); a++) {
            int[][] steps = stepsFrom(slots.get(a));
            for (int b = 0; b < slots.size(); b++) {
                int way = steps[slots.get(b)[0]][slots.get(b)[1]];
                fars[a][b] = way == 1000 ? NONE : way;
            }
            int least = 1000;
            for (int cell = 0; cell < 36; cell++) {
                if (cells[cell % 6][cell / 6] == 'E') {
                    least = Math.min(least, steps[cell % 6][cell / 6]);
                }
            }
            outs[a] = least == 1000 ? NONE : least;
        }
    }

    private boolean isSlot(int slot) {
        return 0 <= slot && slot < slots.size();
    }

    int far(int a, int b) {
        return isSlot(a) && isSlot(b) ? fars[a][b] : BAD;
    }

    int out(int slot) {
        return isSlot(slot) ? outs[slot] : BAD;
    }

    int bound(int v) {
        if (v < 0 || v > 41) {
            return BAD;
        }
        int was = bound;
        bound = v;
        return was;
    }

    int shop() {
        if (weights.size() == 5) {
            return FULL;
        }
        if (slots.size() <= weights.size()) {
            return NOT;
        }
        int slot = 0;
        while (hand.contains(slot)) {
            slot++;
        }
        hand.add(slot);
        weights.add(1);
        return weights.size() - 1;
    }

    private boolean isShop(int shop) {
        return 0 <= shop && shop < weights.size();
    }

    private static boolean isYear(int year) {
        return 0 <= year && year <= 3;
    }

    int load(int year, int from, int to, int v) {
        if (!isYear(year) || !isShop(from) || !isShop(to) || from == to || v < 0 || v > 99) {
            return BAD;
        }
        int was = loads[year][from][to];
        loads[year][from][to] = v;
        return was;
    }

    int weight(int shop, int v) {
        if (!isShop(shop) || v < 1 || v > 50) {
            return BAD;
        }
        return weights.set(shop, v);
    }

    int wish(int a, int b, boolean near, int d) {
        if (!isShop(a) || !isShop(b) || a == b || d < 0 || d > 20) {
            return BAD;
        }
        if (wishes.size() == 6) {
            return FULL;
        }
        wishes.add(new Wish(a, b, near, d));
        return wishes.size() - 1;
    }

    int unwish(int wish) {
        if (wish < 0 || wish >= wishes.size()) {
            return BAD;
        }
        wishes.remove(wish);
        return 1;
    }

    /** All places there are, in their order. */
    private List<List<Integer>> allPlaces() {
        List<List<Integer>> all = new ArrayList<>();
        addPlaces(new ArrayList<>(), all);
        return all;
    }

    private void addPlaces(List<Integer> begun, List<List<Integer>> all) {
        if (begun.size() == weights.size()) {
            all.add(new ArrayList<>(begun));
            return;
        }
        for (int slot = 0; slot < slots.size(); slot++) {
            if (!begun.contains(slot)) {
                begun.add(slot);
                addPlaces(begun, all);
                begun.remove(begun.size() - 1);
            }
        }
    }

    private static int told(List<Integer> places) {
        int told = 0;
        int worth = 1;
        for (int slot : places) {
            told += worth * slot;
            worth *= 6;
        }
        return told;
    }

    private List<Integer> placesToldAs(int told) {
        for (List<Integer> places : allPlaces()) {
            if (told(places) == told) {
                return places;
            }
        }
        return null;
    }

    int put(int told) {
        List<Integer> places = placesToldAs(told);
        if (places == null) {
            return BAD;
        }
        hand = places;
        return 1;
    }

    int places() {
        return told(hand);
    }

    private boolean isMet(Wish wish, List<Integer> places) {
        int way = fars[places.get(wish.a())][places.get(wish.b())];
        return wish.near() ? way >= 0 && way <= wish.d() : way < 0 || way >= wish.d();
    }

    /** NONE where the places are not right. */
    private int costOf(int year, List<Integer> places) {
        for (Wish wish : wishes) {
            if (!isMet(wish, places)) {
                return NONE;
            }
        }
        for (int slot : places) {
            if (bound <= 40 && (outs[slot] == NONE || outs[slot] > bound)) {
                return NONE;
            }
        }
        int cost = 0;
        for (int from = 0; from < places.size(); from++) {
            for (int to = 0; to < places.size(); to++) {
                int load = loads[year][from][to];
                int way = fars[places.get(from)][places.get(to)];
                if (load > 0 && way == NONE) {
                    return NONE;
                }
                cost += load > 0 ? load * way : 0;
            }
        }
        return cost;
    }

    int cost(int year) {
        return isYear(year) ? costOf(year, hand) : BAD;
    }

    private List<List<Integer>> bests(int year, List<List<Integer>> among) {
        List<List<Integer>> bests = new ArrayList<>();
        int least = NONE;
        for (List<Integer> places : among) {
            int cost = costOf(year, places);
            if (cost != NONE && (least == NONE || cost < least)) {
                least = cost;
                bests.clear();
            }
            if (cost != NONE && cost == least) {
                bests.add(places);
            }
        }
        return bests;
    }

    int best(int year) {
        if (!isYear(year)) {
            return BAD;
        }
        List<List<Integer>> bests = bests(year, allPlaces());
        return bests.isEmpty() ? NONE : costOf(year, bests.get(0));
    }

    int many(int year) {
        return isYear(year) ? bests(year, allPlaces()).size() : BAD;
    }

    int take(int year) {
        if (!isYear(year)) {
            return BAD;
        }
        List<List<Integer>> bests = bests(year, allPlaces());
        if (bests.isEmpty()) {
            return NOT;
        }
        hand = bests.get(0);
        return costOf(year, hand);
    }

    int floor(int year) {
        if (!isYear(year)) {
            return BAD;
        }
        List<Integer> carried = new ArrayList<>();
        for (int a = 0; a < weights.size(); a++) {
            for (int b = 0; b < a; b++) {
                int both = loads[year][a][b] + loads[year][b][a];
                if (both > 0) {
                    carried.add(both);
                }
            }
        }
        List<Integer> ways = new ArrayList<>();
        for (int a = 0; a < slots.size(); a++) {
            for (int b = 0; b < a; b++) {
                if (fars[a][b] >= 0) {
                    ways.add(fars[a][b]);
                }
            }
        }
        if (ways.size() < carried.size()) {
            return NONE;
        }
        carried.sort(Collections.reverseOrder());
        Collections.sort(ways);
        int sum = 0;
        for (int i = 0; i < carried.size(); i++) {
            sum += carried.get(i) * ways.get(i);
        }
        return sum;
    }

    /** All places that one change makes of these, in their order: two shops differ, or one. */
    private List<List<Integer>> changed(List<Integer> from) {
        List<List<Integer>> found = new ArrayList<>();
        for (List<Integer> places : allPlaces()) {
            List<Integer> elsewhere = new ArrayList<>();
            for (int shop = 0; shop < places.size(); shop++) {
                if (!places.get(shop).equals(from.get(shop))) {
                    elsewhere.add(shop);
                }
            }
            boolean isExchange = elsewhere.size() == 2
                    && places.get(elsewhere.get(0)).equals(from.get(elsewhere.get(1)))
                    && places.get(elsewhere.get(1)).equals(from.get(elsewhere.get(0)));
            if (elsewhere.size() == 1 || isExchange) {
                found.add(places);
            }
        }
        return found;
    }

    private List<Integer> better(int year, List<Integer> places) {
        int now = costOf(year, places);
        List<List<Integer>> bests = bests(year, changed(places));
        if (bests.isEmpty() || now != NONE && costOf(year, bests.get(0)) >= now) {
            return null;
        }
        return bests.get(0);
    }

    int settled(int year) {
        if (!isYear(year)) {
            return BAD;
        }
        return costOf(year, hand) != NONE && better(year, hand) == null ? 1 : 0;
    }

    int climb(int year) {
        if (!isYear(year)) {
            return BAD;
        }
        int changes = 0;
        List<Integer> next = better(year, hand);
        while (next != null) {
            hand = next;
            changes++;
            next = better(year, hand);
        }
        return changes;
    }

    /** The least move to every one of the places that can be reached, by what they are told as. */
    Map<Integer, List<Integer>> leastMoves() {
        Map<Integer, List<Integer>> rows = new HashMap<>();
        for (Road road : leastRoads().values()) {
            rows.put(told(road.end()), road.row());
        }
        return rows;
    }

    private Map<List<Integer>, Road> leastRoads() {
        Map<List<Integer>, Road> done = new HashMap<>();
        PriorityQueue<Road> waiting = new PriorityQueue<>(Comparator.comparingInt(Road::cost)
                .thenComparingInt(road -> road.row().size())
                .thenComparing(Road::row, ORDER));
        waiting.add(new Road(0, List.of(), hand));
        while (!waiting.isEmpty()) {
            Road road = waiting.remove();
            if (done.putIfAbsent(road.end(), road) != null) {
                continue;
            }
            for (int shop = 0; shop < weights.size(); shop++) {
                for (int slot = 0; slot < slots.size(); slot++) {
                    if (!road.end().contains(slot)) {
                        List<Integer> row = new ArrayList<>(road.row());
                        row.add(10 * shop + slot);
                        List<Integer> end = new ArrayList<>(road.end());
                        end.set(shop, slot);
                        waiting.add(new Road(road.cost() + weights.get(shop), row, end));
                    }
                }
            }
        }
        return done;
    }

    int move(int aim) {
        List<Integer> places = placesToldAs(aim);
        if (places == null) {
            return BAD;
        }
        Road road = leastRoads().get(places);
        return road == null ? NONE : road.cost();
    }

    int step(int aim, int i) {
        List<Integer> places = placesToldAs(aim);
        if (places == null || i < 0) {
            return BAD;
        }
        Road road = leastRoads().get(places);
        return road == null || i >= road.row().size() ? NONE : road.row().get(i);
    }

    int weightOf(int shop) {
        return weights.get(shop);
    }

    private int moved(List<Integer> a, List<Integer> b) {
        int sum = 0;
        for (int shop = 0; shop < a.size(); shop++) {
            sum += a.get(shop).equals(b.get(shop)) ? 0 : weights.get(shop);
        }
        return sum;
    }

    /** From the first year onward: the best plan that ends at each of the places, as ranks in order. */
    private Road bestPlan(int n) {
        List<List<Integer>> all = allPlaces();
        List<Road> ends = new ArrayList<>();
        for (int at = 0; at < all.size(); at++) {
            int cost = costOf(0, all.get(at));
            if (cost != NONE) {
                ends.add(new Road(cost, List.of(at), all.get(at)));
            }
        }
        for (int year = 1; year < n; year++) {
            List<Road> next = new ArrayList<>();
            for (int at = 0; at < all.size(); at++) {
                int cost = costOf(year, all.get(at));
                Road before = cost == NONE ? null : cheapest(ends, all.get(at));
                if (before != null) {
                    List<Integer> row = new ArrayList<>(before.row());
                    row.add(at);
                    int whole = before.cost() + moved(before.end(), all.get(at)) + cost;
                    next.add(new Road(whole, row, all.get(at)));
                }
            }
            ends = next;
        }
        return cheapest(ends, null);
    }

    /** Of the roads the cheapest, the move to the places included, and of several the first. */
    private Road cheapest(List<Road> roads, List<Integer> places) {
        Road best = null;
        int least = 0;
        for (Road road : roads) {
            int cost = road.cost() + (places == null ? 0 : moved(road.end(), places));
            if (best == null || cost < least || cost == least && compareRows(road.row(), best.row()) < 0) {
                best = road;
                least = cost;
            }
        }
        return best;
    }

    int plan(int n) {
        if (n < 1 || n > 4) {
            return BAD;
        }
        Road plan = bestPlan(n);
        return plan == null ? NONE : plan.cost();
    }

    int planned(int n, int y) {
        if (n < 1 || n > 4 || y < 0 || y >= n) {
            return BAD;
        }
        Road plan = bestPlan(n);
        return plan == null ? NONE : told(allPlaces().get(plan.row().get(y)));
    }

    int count(int what) {
        int columns = 0;
        int exits = 0;
        for (char[] row : cells) {
            for (char cell : row) {
                columns += cell == '#' ? 1 : 0;
                exits += cell == 'E' ? 1 : 0;
            }
        }
        int[] counts = {slots.size(), weights.size(), wishes.size(), columns, exits};
        return what >= 0 && what < 5 ? counts[what] : BAD;
    }
}
