import java.io.PrintWriter;
import java.io.StringWriter;
import java.lang.reflect.Method;
import java.lang.reflect.Modifier;
import java.util.ArrayList;
import java.util.HashMap;
import java.util.List;
import java.util.Map;
import java.util.TreeSet;
import java.util.regex.Matcher;
import java.util.regex.Pattern;
import java.util.spi.ToolProvider;

/** No call goes more than eight deep, and none calls itself: read from the compiled class, by the JDK's own javap. */
public final class DepthTest {
    private static final int MOST_DEEP = 8;
    private static final Pattern CLASS = Pattern.compile("^[\\w ]*class (\\S+) \\{$");
    private static final Pattern METHOD = Pattern.compile("^  \\S.*?([\\w$]+)\\(.*\\);$");
    private static final Pattern CALL = Pattern.compile("// Method (?:([\\w$]+)\\.)?\"?([\\w$<>]+)\"?:");

    private static final Map<String, TreeSet<String>> CALLS = new HashMap<>();

    public static void main(String[] args) {
        read(unfolded());
        int deepest = 0;
        for (Method method : ShopsOnFloor.class.getDeclaredMethods()) {
            if (Modifier.isPublic(method.getModifiers())) {
                List<String> deepestRow = deepest("ShopsOnFloor." + method.getName(), new ArrayList<>());
                Due.is("not too deep: " + deepestRow, deepestRow.size() <= MOST_DEEP ? 1 : 0, 1);
                deepest = Math.max(deepest, deepestRow.size());
            }
        }
        Due.is("calls were found", deepest > 3 ? 1 : 0, 1);
        Due.end();
    }

    private static String unfolded() {
        List<String> words = new ArrayList<>(List.of("-c", "-p", "-cp", System.getProperty("java.class.path")));
        words.add("ShopsOnFloor");
        for (Class<?> inside : ShopsOnFloor.class.getDeclaredClasses()) {
            words.add(inside.getName());
        }
        StringWriter text = new StringWriter();
        ToolProvider javap = ToolProvider.findFirst("javap").orElseThrow();
        Due.is("javap", javap.run(new PrintWriter(text), new PrintWriter(System.err), words.toArray(new String[0])), 0);
        return text.toString();
    }

    private static void read(String text) {
        String owner = "";
        String method = "";
        for (String line : text.split("\\R")) {
            Matcher ofClass = CLASS.matcher(line);
            Matcher ofMethod = METHOD.matcher(line);
            Matcher ofCall = CALL.matcher(line);
            if (ofClass.find()) {
                owner = ofClass.group(1);
            } else if (ofMethod.find()) {
                method = owner + "." + ofMethod.group(1);
                CALLS.putIfAbsent(method, new TreeSet<>());
            } else if (ofCall.find()) {
                String called = ofCall.group(1) == null ? owner : ofCall.group(1);
                CALLS.get(method).add(called + "." + ofCall.group(2));
            }
        }
    }

    /** The longest row of calls that stand open at once, from this one on. */
    private static List<String> deepest(String method, List<String> open) {
        Due.is("calls itself: " + method, open.contains(method) ? 1 : 0, 0);
        List<String> row = new ArrayList<>(open);
        row.add(method);
        List<String> deepest = row;
        for (String called : CALLS.getOrDefault(method, new TreeSet<>())) {
            if (CALLS.containsKey(called) && !open.contains(method)) {
                List<String> below = deepest(called, row);
                deepest = below.size() > deepest.size() ? below : deepest;
            }
        }
        return deepest;
    }
}
