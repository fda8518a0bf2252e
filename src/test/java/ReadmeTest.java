import java.io.IOException;
import java.lang.reflect.InvocationTargetException;
import java.lang.reflect.Method;
import java.lang.reflect.Modifier;
import java.nio.file.Files;
import java.nio.file.Path;
import java.util.ArrayList;
import java.util.List;
import java.util.TreeSet;
import java.util.regex.Matcher;
import java.util.regex.Pattern;
import java.util.stream.Stream;

/** What README.md says holds: its example calls answer what stands behind them, its tests and classes are there. */
public final class ReadmeTest {
    private static final Pattern BLOCK = Pattern.compile("(?s)```java\n(.*?)```");
    private static final Pattern CALL = Pattern.compile("^floor\\.(\\w+)\\(([^)]*)\\); +// (-?\\d+): \\S.*$");
    private static final String MAKING = "ShopsOnFloor floor = new ShopsOnFloor();";

    private static final TreeSet<String> CALLED = new TreeSet<>();

    public static void main(String[] args) throws IOException, ReflectiveOperationException {
        String readme = Files.readString(Path.of("README.md"));
        Matcher block = BLOCK.matcher(readme);
        Due.is("an example", block.find() ? 1 : 0, 1);
        example(block.group(1));
        Due.is("another example", block.find() ? 1 : 0, 0);
        wholeFace();
        tests(readme);
        classesInside(readme);
        Due.end();
    }

    private static void example(String code) throws ReflectiveOperationException {
        ShopsOnFloor floor = null;
        for (String line : code.split("\n")) {
            Matcher call = CALL.matcher(line);
            if (line.equals(MAKING)) {
                floor = new ShopsOnFloor();
            } else if (call.find()) {
                Due.is(line, answer(floor, call.group(1), call.group(2)), Integer.parseInt(call.group(3)));
            } else {
                Due.is("a line of the example: " + line, line.isEmpty() || line.startsWith("// ") ? 1 : 0, 1);
            }
        }
    }

    private static int answer(ShopsOnFloor floor, String name, String words)
            throws IllegalAccessException, InvocationTargetException {
        String[] given = words.isEmpty() ? new String[0] : words.split(", ");
        for (Method method : ShopsOnFloor.class.getDeclaredMethods()) {
            if (method.getName().equals(name) && method.getParameterCount() == given.length) {
                CALLED.add(name);
                return (int) method.invoke(floor, values(given));
            }
        }
        throw new IllegalArgumentException("no call " + name + " of " + given.length);
    }

    private static Object[] values(String[] given) {
        Object[] values = new Object[given.length];
        for (int i = 0; i < given.length; i++) {
            boolean isTruth = given[i].equals("true") || given[i].equals("false");
            values[i] = isTruth ? (Object) Boolean.valueOf(given[i]) : (Object) Integer.valueOf(given[i]);
        }
        return values;
    }

    private static void wholeFace() {
        for (Method method : ShopsOnFloor.class.getDeclaredMethods()) {
            if (Modifier.isPublic(method.getModifiers())) {
                Due.is("the example calls " + method.getName(), CALLED.contains(method.getName()) ? 1 : 0, 1);
            }
        }
    }

    private static void tests(String readme) throws IOException {
        Due.is(".ci/run is named", readme.contains("\n.ci/run\n") ? 1 : 0, 1);
        Due.is(".ci/run can be run", Files.isExecutable(Path.of(".ci/run")) ? 1 : 0, 1);
        List<String> names = new ArrayList<>();
        try (Stream<Path> files = Files.list(Path.of("src/test/java"))) {
            files.forEach(file -> names.add(file.getFileName().toString().replace(".java", "")));
        }
        for (String name : names) {
            Due.is(name + " is named", readme.contains("`" + name + "`") ? 1 : 0, 1);
        }
        Matcher test = Pattern.compile("`(\\w+Test)`").matcher(readme);
        while (test.find()) {
            Due.is(test.group(1) + " is there", names.contains(test.group(1)) ? 1 : 0, 1);
        }
    }

    private static void classesInside(String readme) {
        for (Class<?> inside : ShopsOnFloor.class.getDeclaredClasses()) {
            String name = inside.getSimpleName();
            Due.is("the class " + name + " is named", readme.contains("`" + name + "`") ? 1 : 0, 1);
        }
    }
}
