import java.io.PrintWriter;
import java.io.StringWriter;
import java.lang.reflect.Method;
import java.lang.reflect.Modifier;
import java.util.ArrayList;
import java.util.HashMap;
import java.util.List;
import java.util.Map;
import java.util.TreeSet;
import java.util.regex.Matcher;
import java.util.regex.Pattern;
import java.util.spi.ToolProvider;

/**
 * Read from the compiled class, by the JDK's own javap: no call goes more than eight deep, none calls itself, and
 * of Java's library the class calls but what it may.
 */
public final class DepthTest {
    private static final int MOST_DEEP = 8;
    private static final Pattern CLASS = Pattern.compile("^[\\w ]*class (\\S+) \\{$");
    private static final Pattern METHOD = Pattern.compile("^  \\S.*?([\\w$]+)\\(.*\\);$");
    private static final Pattern CALL = Pattern.compile("// Method (?:([\\w$]+)\\.)?\"?([\\w$<>]+)\"?:");
    private static final Pattern LIBRARY = Pattern.compile("// (?:Interface)?Method (java\\S+?):");
    /** What an object's making calls, and the one function over numbers. */
    private static final List<String> MAY_BE_CALLED = List.of("java/lang/Object.\"<init>\"", "java/lang/Math.min");

    private static final Map<String, TreeSet<String>> CALLS = new HashMap<>();

    public static void main(String[] args) {
        String text = unfolded();
        read(text);
        library(text);
        int deepest = 0;
        for (Method method : ShopsOnFloor.class.getDeclaredMethods()) {
            if (Modifier.isPublic(method.getModifiers())) {
                List<String> deepestRow = deepest("ShopsOnFloor." + method.getName(), new ArrayList<>());
                Due.is("not too deep: " + deepestRow, deepestRow.size() <= MOST_DEEP ? 1 : 0, 1);
                deepest = Math.max(deepest, deepestRow.size());
            }
        }
        Due.is("calls were found", deepest > 3 ? 1 : 0, 1);
        Due.end();
    }

    private static String unfolded() {
        List<String> words = new ArrayList<>(List.of("-c", "-p", "-cp", System.getProperty("java.class.path")));
        words.add("ShopsOnFloor");
        for (Class<?> inside : ShopsOnFloor.class.getDeclaredClasses()) {
            words.add(inside.getName());
        }
        StringWriter text = new StringWriter();
        ToolProvider javap = ToolProvider.findFirst("javap").orElseThrow();
        Due.is("javap", javap.run(new PrintWriter(text), new PrintWriter(System.err), words.toArray(new String[0])), 0);
        return text.toString();
    }

    private static void library(String text) {
        Matcher call = LIBRARY.matcher(text);
        int calls = 0;
        while (call.find()) {
            calls++;
            Due.is("may be called: " + call.group(1), MAY_BE_CALLED.contains(call.group(1)) ? 1 : 0, 1);
        }
        Due.is("calls of the library were found", calls > 0 ? 1 : 0, 1);
    }

    private static void read(String text) {
        String owner = "";
        String method = "";
        for (String line : text.split("\\R")) {
            Matcher ofClass = CLASS.matcher(line);
            Matcher ofMethod = METHOD.matcher(line);
            Matcher ofCall = CALL.matcher(line);
            if (ofClass.find()) {
                owner = ofClass.group(1);
            } else if (ofMethod.find()) {
                method = owner + "." + ofMethod.group(1);
                CALLS.putIfAbsent(method, new TreeSet<>());
            } else if (ofCall.find()) {
                String called = ofCall.group(1) == null ? owner : ofCall.group(1);
                CALLS.get(method).add(called + "." + ofCall.group(2));
            }
        }
    }

    /** The longest row of calls that stand open at once, from this one on. */
    private static List<String> deepest(String method, List<String> open) {
        Due.is("calls itself: " + method, open.contains(method) ? 1 : 0, 0);
        List<String> row = new ArrayList<>(open);
        row.add(method);
        List<String> deepest = row;
        for (String called : CALLS.getOrDefault(method, new TreeSet<>())) {
            if (CALLS.containsKey(called) && !open.contains(method)) {
                List<String> below = deepest(called, row);
                deepest = below.size() > deepest.size() ? below : deepest;
            }
        }
        return deepest;
    }
}
