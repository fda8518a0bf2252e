import java.util.ArrayList;
import java.util.List;

/**
 * What the document's words say of several calls at once, on many floors, drawn the same every time. It needs no
 * second model: one call's answer is looked at by others, as a plan's cost by its places and their costs.
 */
public final class LawsTest {
    private static final int NONE = -1, BAD = -2, NOT = -3;
    private static final int FLOORS = 300;
    /** An object is promised for 512 calls; one that has had so many is made anew. */
    private static final int MOST_CALLS = 400;
    private static final int MOST_STEPS = 7;

    private final int number;
    private long seed;
    private ShopsOnFloor s;
    private int slots;
    private int shops;
    private final int[] weights = new int[5];
    /** All places there are, in their order. */
    private final List<Integer> all = new ArrayList<>();

    private LawsTest(int number) {
        this.number = number;
    }

    private long seedOfFloor() {
        return 1_000_003L * number + 17;
    }

    public static void main(String[] args) {
        int right = 0;
        for (int number = 0; number < FLOORS; number++) {
            right += new LawsTest(number).run() ? 1 : 0;
        }
        Due.is("floors with right places", right > FLOORS / 2 ? 1 : 0, 1);
        Due.is("floors without", right < FLOORS ? 1 : 0, 1);
        Due.end();
    }

    private int draw(int below) {
        seed = seed * 6364136223846793005L + 1442695040888963407L;
        return (int) Math.floorMod(seed >>> 33, (long) below);
    }

    private void holds(String law, boolean does) {
        Due.is("floor " + number + ": " + law, does ? 1 : 0, 1);
    }

    private boolean run() {
        seed = -seedOfFloor();
        make();
        list(0, new int[shops]);
        fars();
        boolean isRight = false;
        for (int year = 0; year < 4; year++) {
            isRight |= bests(year);
            climbs(year);
        }
        plans();
        for (int i = 0; i < 6; i++) {
            moves(all.get(draw(all.size())), all.get(draw(all.size())));
        }
        return isRight;
    }

    /** Makes the floor, the same one every time, whatever else has been drawn. */
    private void make() {
        long kept = seed;
        seed = seedOfFloor();
        s = new ShopsOnFloor();
        furnish();
        settle();
        seed = kept;
    }

    private void furnish() {
        for (int i = draw(9); i > 0; i--) {
            s.column(draw(6), draw(6), true);
        }
        for (int i = 0; i < 6; i++) {
            s.slot(draw(6), draw(6));
        }
        for (int i = draw(4); i > 0; i--) {
            s.exit(draw(6), draw(6), true);
        }
        s.bound(draw(3) == 0 ? 4 + draw(6) : 41);
        slots = s.count(0);
    }

    private void settle() {
        Floors.addShops(s, Math.min(slots, 1 + draw(5)));
        shops = s.count(1);
        for (int shop = 0; shop < shops; shop++) {
            weights[shop] = 1 + draw(draw(2) == 0 ? 4 : 50);
            s.weight(shop, weights[shop]);
        }
        for (int i = draw(20); i > 0; i--) {
            s.load(draw(4), draw(5), draw(5), draw(draw(2) == 0 ? 4 : 100));
        }
        for (int i = draw(4); i > 0; i--) {
            s.wish(draw(5), draw(5), draw(2) == 0, 1 + draw(6));
        }
    }

    private void list(int shop, int[] places) {
        if (shop == shops) {
            all.add(Floors.told(places));
            return;
        }
        for (int slot = 0; slot < slots; slot++) {
            boolean isFree = true;
            for (int other = 0; other < shop; other++) {
                isFree &= places[other] != slot;
            }
            if (isFree) {
                places[shop] = slot;
                list(shop + 1, places);
            }
        }
    }

    private static int slotOf(int told, int shop) {
        int rest = told;
        for (int i = 0; i < shop; i++) {
            rest /= 6;
        }
        return rest % 6;
    }

    /** Promises 5 and 6. */
    private void fars() {
        for (int a = 0; a < slots; a++) {
            holds("far of one and itself is 0", s.far(a, a) == 0);
            holds("out is NONE or above 0", s.out(a) == NONE || s.out(a) > 0);
            for (int b = 0; b < a; b++) {
                holds("far is the same both ways", s.far(a, b) == s.far(b, a));
                holds("far of two is NONE or above 0", s.far(a, b) == NONE || s.far(a, b) > 0);
            }
        }
    }

    /** Promises 13 to 19: the least cost of all places, how many have it, which is the first. */
    private boolean bests(int year) {
        int least = NONE;
        int many = 0;
        int first = NONE;
        for (int i = 0; i < all.size(); i++) {
            renewBehind(i);
            holds("put", s.put(all.get(i)) == 1);
            int cost = s.cost(year);
            if (cost != NONE && (least == NONE || cost < least)) {
                least = cost;
                many = 0;
                first = all.get(i);
            }
            many += cost != NONE && cost == least ? 1 : 0;
        }
        make();
        holds("best is the least cost", s.best(year) == least);
        holds("many are best", s.many(year) == many);
        holds("the floor is " + s.floor(year), least == NONE || s.floor(year) != NONE && s.floor(year) <= least);
        int before = s.places();
        holds("take answers best", s.take(year) == (least == NONE ? NOT : least));
        holds("take takes the first", s.places() == (least == NONE ? before : first));
        holds("the best are settled", s.settled(year) == (least == NONE ? 0 : 1));
        return least != NONE;
    }

    private void renewBehind(int calls) {
        if (calls % (MOST_CALLS / 3) == 0) {
            make();
        }
    }

    /** Promises 20 and 21: as long as a change betters the places, they are not settled, and a climb goes on. */
    private void climbs(int year) {
        make();
        for (int i = 0; i < 5; i++) {
            int from = all.get(draw(all.size()));
            s.put(from);
            int cost = s.cost(year);
            int isSettled = s.settled(year);
            int changes = s.climb(year);
            int behind = s.cost(year);
            holds("no change leaves the places", changes > 0 || s.places() == from);
            holds("a change betters", changes == 0 || behind != NONE && (cost == NONE || behind < cost));
            holds("settled are right and do not climb", (isSettled == 1) == (cost != NONE && changes == 0));
            holds("then they are settled, or not right", s.settled(year) == (behind == NONE ? 0 : 1));
            holds("then none is left", s.climb(year) == 0);
        }
    }

    /** Promises 24 and 25: a plan's places cost what the plan costs, and no year can cost less than its best. */
    private void plans() {
        int bests = 0;
        for (int n = 1; n <= 4; n++) {
            make();
            int best = s.best(n - 1);
            bests = best == NONE || bests == NONE ? NONE : bests + best;
            int plan = s.plan(n);
            holds("a plan is there, if all years have right places", (plan == NONE) == (bests == NONE));
            holds("a plan costs no less than its years' best", plan >= bests);
            int sum = 0;
            for (int y = 0; y < n; y++) {
                int places = s.planned(n, y);
                holds("planned is there, if a plan is", (places == NONE) == (plan == NONE));
                if (places != NONE) {
                    s.put(places);
                    sum += s.cost(y) + (y == 0 ? 0 : goes(s.planned(n, y - 1), places));
                }
            }
            holds("the plan of " + n + " costs what its places do", plan == NONE || plan == sum);
            stays(n, plan);
        }
    }

    /** What all shops weigh that are elsewhere. */
    private int goes(int from, int to) {
        int sum = 0;
        for (int shop = 0; shop < shops; shop++) {
            sum += slotOf(from, shop) == slotOf(to, shop) ? 0 : weights[shop];
        }
        return sum;
    }

    /** To stay on some places for all years is a plan, too. */
    private void stays(int n, int plan) {
        for (int i = 0; i < 8; i++) {
            s.put(all.get(draw(all.size())));
            int sum = 0;
            for (int y = 0; y < n; y++) {
                int cost = s.cost(y);
                sum = cost == NONE || sum == NONE ? NONE : sum + cost;
            }
            holds("to stay costs no less", sum == NONE || plan != NONE && plan <= sum);
        }
    }

    /** Promises 22 and 23: each step is to a free slot, all together cost the move, and lead to the aim. */
    private void moves(int from, int aim) {
        make();
        s.put(from);
        int left = s.move(aim);
        if (slots == shops) {
            holds("no free slot: no move but to where they are", left == (from == aim ? 0 : NONE));
        }
        holds("a move costs what all weigh that go", left == NONE || left >= goes(from, aim));
        List<Integer> steps = new ArrayList<>();
        for (int i = 0; i < MOST_STEPS && s.step(aim, i) != NONE; i++) {
            steps.add(s.step(aim, i));
        }
        holds("no steps behind the last", s.step(aim, steps.size()) == NONE && s.step(aim, MOST_STEPS) == NONE);
        holds("no places have no steps", s.step(aim + 7776, 0) == BAD);
        for (int i = 0; i < steps.size(); i++) {
            goStep(steps.get(i));
            left -= weights[steps.get(i) / 10];
            holds("the rest costs less by the step's weight", s.move(aim) == left);
            for (int rest = i + 1; rest < steps.size(); rest++) {
                holds("the rest's steps are the same", s.step(aim, rest - i - 1) == steps.get(rest));
            }
        }
        holds("the steps lead to the aim", left == NONE ? s.places() == from : left == 0 && s.places() == aim);
    }

    private void goStep(int step) {
        int[] places = new int[shops];
        for (int shop = 0; shop < shops; shop++) {
            places[shop] = slotOf(s.places(), shop);
            holds("the step's slot is free", places[shop] != step % 10);
        }
        holds("the step's shop is there", step / 10 < shops && step % 10 < slots);
        places[step / 10] = step % 10;
        holds("the step goes to places", s.put(Floors.told(places)) == 1);
    }
}
