import java.util.ArrayList;
import java.util.List;

/** What an object shows: the answers of calls one after the other, as many as calls are made. */
final class View {
    private final ShopsOnFloor s;
    private final List<Integer> answers = new ArrayList<>();

    private View(ShopsOnFloor s) {
        this.s = s;
    }

    /** By calls that change nothing. */
    static List<Integer> of(ShopsOnFloor s) {
        View view = new View(s);
        view.countsAndWays();
        view.years();
        view.moves();
        view.plans();
        return view.answers;
    }

    /** By calls that tell what was, each put back behind it, and at last by calls that change the object for good. */
    static List<Integer> inDepth(ShopsOnFloor s) {
        View view = new View(s);
        view.cells();
        view.loads();
        view.weightsAndBound();
        view.choices();
        view.wishes();
        return view.answers;
    }

    private int add(int answer) {
        answers.add(answer);
        return answer;
    }

    private void countsAndWays() {
        int slots = add(s.count(0));
        for (int what = 1; what <= 4; what++) {
            add(s.count(what));
        }
        for (int a = 0; a < slots; a++) {
            for (int b = 0; b < slots; b++) {
                add(s.far(a, b));
            }
            add(s.out(a));
        }
        add(s.places());
    }

    private void years() {
        for (int year = 0; year < 4; year++) {
            add(s.cost(year));
            add(s.best(year));
            add(s.many(year));
            add(s.floor(year));
            add(s.settled(year));
        }
    }

    /** To the best places of two years. */
    private void moves() {
        for (int year = 0; year < 4; year += 3) {
            int aim = s.planned(year + 1, year);
            answers.add(aim);
            add(s.move(aim));
            for (int i = 0; i < 4; i++) {
                add(s.step(aim, i));
            }
        }
    }

    private void plans() {
        for (int n = 1; n <= 4; n++) {
            add(s.plan(n));
            for (int y = 0; y < n; y++) {
                add(s.planned(n, y));
            }
        }
    }

    private void cells() {
        for (int cell = 0; cell < 36; cell++) {
            int x = cell % 6;
            int y = cell / 6;
            int was = add(s.exit(x, y, false));
            if (was == 1) {
                add(s.exit(x, y, true));
            } else if (was != 0) {
                add(s.column(x, y, true));
            }
        }
    }

    private void loads() {
        int shops = add(s.count(1));
        for (int load = 0; load < 4 * shops * shops; load++) {
            int from = load / shops % shops;
            int to = load % shops;
            if (from != to) {
                int was = add(s.load(load / shops / shops, from, to, 0));
                if (was != 0) {
                    add(s.load(load / shops / shops, from, to, was));
                }
            }
        }
    }

    private void weightsAndBound() {
        int shops = add(s.count(1));
        for (int shop = 0; shop < shops; shop++) {
            add(s.weight(shop, add(s.weight(shop, 50))));
        }
        add(s.bound(add(s.bound(41))));
    }

    private void choices() {
        for (int year = 0; year < 4; year++) {
            add(s.climb(year));
            add(s.places());
            add(s.take(year));
            add(s.places());
        }
    }

    /** A wish shows by what it forbids: all go, the last one first. */
    private void wishes() {
        for (int wish = add(s.count(2)) - 1; wish >= 0; wish--) {
            add(s.many(wish % 4));
            add(s.best(wish % 4));
            add(s.unwish(wish));
        }
        add(s.many(0));
    }
}
