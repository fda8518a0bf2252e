import java.lang.reflect.InvocationTargetException;
import java.lang.reflect.Method;
import java.util.List;
import java.util.TreeMap;

/** Counts the answers that are not the ones that are due, and tells them. */
final class Due {
    private static final int MOST_TOLD = 40;
    private static int wrong = 0;
    private static int asked = 0;
    /** The case at hand, told ahead of each wrong answer. */
    private static String where = "";

    private Due() {
    }

    static void is(String call, long got, long want) {
        asked++;
        if (got != want) {
            tell(call + " answered " + got + ", due is " + want);
        }
    }

    static void same(String what, List<Integer> got, List<Integer> want) {
        asked++;
        if (!got.equals(want)) {
            tell(what + ": " + got + ", due is " + want);
        }
    }

    private static void tell(String text) {
        wrong++;
        if (wrong <= MOST_TOLD) {
            System.out.println(where + text);
        }
    }

    static int wrongs() {
        return wrong;
    }

    /** Runs all cases of the class, which are named after their promise, as promise02_.. or terms1_... */
    static void cases(Class<?> tests) {
        TreeMap<String, Method> cases = new TreeMap<>();
        for (Method method : tests.getDeclaredMethods()) {
            if (method.getName().startsWith("promise") || method.getName().startsWith("terms")) {
                cases.put(method.getName(), method);
            }
        }
        for (Method method : cases.values()) {
            where = method.getName() + ": ";
            int before = asked;
            run(method);
            is("answers were looked at", asked > before ? 1 : 0, 1);
        }
        where = "";
        System.out.println(cases.size() + " cases");
    }

    private static void run(Method method) {
        try {
            method.invoke(null);
        } catch (IllegalAccessException | InvocationTargetException thrown) {
            asked++;
            tell("was thrown: " + thrown.getCause());
        }
    }

    /** To be called last: ends the machine with 1 if an answer was wrong. */
    static void end() {
        System.out.println(asked + " answers looked at, " + wrong + " wrong");
        if (wrong != 0 || asked == 0) {
            System.exit(1);
        }
    }
}
