/** Counts the answers that are not the ones that are due, and tells them. */
final class Due {
    private static final int MOST_TOLD = 40;
    private static int wrong = 0;
    private static int asked = 0;

    private Due() {
    }

    static void is(String call, long got, long want) {
        asked++;
        if (got != want) {
            wrong++;
            if (wrong <= MOST_TOLD) {
                System.out.println(call + " answered " + got + ", due is " + want);
            }
        }
    }

    static int wrongs() {
        return wrong;
    }

    /** To be called last: ends the machine with 1 if an answer was wrong. */
    static void end() {
        System.out.println(asked + " answers looked at, " + wrong + " wrong");
        if (wrong != 0 || asked == 0) {
            System.exit(1);
        }
    }
}
