import java.util.List;
import java.util.Map;

/** Promises 22 and 23 whole: from some places, the least move to every aim there is, by a full search. */
public final class MovesTest {
    /** An object is promised for 512 calls only, so each is asked for a few aims and left. */
    private static final int AIMS_OF_ONE = 30;

    private ShopsOnFloor got;
    private int asked;

    public static void main(String[] args) {
        int[][] weights = {{1, 1, 1, 1, 1}, {50, 1, 1, 50, 2}, {3, 2, 2, 3, 1}, {5, 4, 3, 2, 1}, {1, 2, 50, 49, 48}};
        for (int i = 0; i < weights.length; i++) {
            for (int shops = 1; shops <= 5; shops++) {
                for (int slots = shops; slots <= 6; slots++) {
                    new MovesTest().compare(slots, shops, weights[i], i);
                }
            }
        }
        Due.end();
    }

    private void compare(int slots, int shops, int[] weights, int start) {
        PlainFloor want = new PlainFloor();
        for (int slot = 0; slot < slots; slot++) {
            want.slot(slot, 0);
        }
        for (int shop = 0; shop < shops; shop++) {
            want.shop();
            want.weight(shop, weights[shop]);
        }
        want.put(turned(shops, slots, start));
        Map<Integer, List<Integer>> rows = want.leastMoves();
        for (int aim = 0; aim < 7776; aim++) {
            if (rows.containsKey(aim)) {
                if (asked++ % AIMS_OF_ONE == 0) {
                    renew(slots, shops, weights, start);
                }
                compareAim(aim, rows.get(aim), want);
            }
        }
    }

    /** Shop 0 is on the slot of this number, shop 1 on the next, and so on around. */
    private static int turned(int shops, int slots, int start) {
        int told = 0;
        for (int shop = shops - 1; shop >= 0; shop--) {
            told = told * 6 + (start + shop) % slots;
        }
        return told;
    }

    private void renew(int slots, int shops, int[] weights, int start) {
        got = new ShopsOnFloor();
        for (int slot = 0; slot < slots; slot++) {
            got.slot(slot, 0);
        }
        for (int shop = 0; shop < shops; shop++) {
            got.shop();
            got.weight(shop, weights[shop]);
        }
        Due.is("put", got.put(turned(shops, slots, start)), 1);
    }

    private void compareAim(int aim, List<Integer> row, PlainFloor want) {
        int cost = 0;
        for (int i = 0; i < row.size(); i++) {
            cost += want.weightOf(row.get(i) / 10);
            Due.is("from " + want.places() + ": step " + aim + " " + i, got.step(aim, i), row.get(i));
        }
        Due.is("from " + want.places() + ": steps of " + aim, got.step(aim, row.size()), ShopsOnFloor.NONE);
        Due.is("from " + want.places() + ": move " + aim, got.move(aim), cost);
    }
}
