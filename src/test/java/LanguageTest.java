import java.io.IOException;
import java.lang.management.ManagementFactory;
import java.lang.reflect.Field;
import java.lang.reflect.Method;
import java.lang.reflect.Modifier;
import java.nio.file.Files;
import java.nio.file.Path;
import java.util.ArrayList;
import java.util.Arrays;
import java.util.List;
import java.util.TreeSet;

/** What can be seen of the rules that the class keeps to: its face, its words, and that calls make nothing. */
public final class LanguageTest {
    private static final String FACE = "best(int) bound(int) climb(int) column(int,int,boolean) cost(int) count(int) "
            + "exit(int,int,boolean) far(int,int) floor(int) load(int,int,int,int) many(int) move(int) out(int) "
            + "places() plan(int) planned(int,int) put(int) settled(int) shop() slot(int,int) step(int,int) "
            + "take(int) unwish(int) weight(int,int) wish(int,int,boolean,int)";

    public static void main(String[] args) throws IOException {
        face();
        classesInside();
        String text = Files.readString(Path.of("src/main/java/ShopsOnFloor.java"));
        signs(text);
        lengths(text);
        words(withoutComments(text));
        callsMakeNothing();
        Due.end();
    }

    private static String signature(Method method) {
        List<String> types = new ArrayList<>();
        for (Class<?> type : method.getParameterTypes()) {
            types.add(type.getName());
        }
        return method.getName() + "(" + String.join(",", types) + ")";
    }

    private static void face() {
        TreeSet<String> found = new TreeSet<>();
        for (Method method : ShopsOnFloor.class.getDeclaredMethods()) {
            if (Modifier.isPublic(method.getModifiers())) {
                found.add(signature(method));
                Due.is(method.getName() + " answers an int", method.getReturnType() == int.class ? 1 : 0, 1);
            } else {
                Due.is(method.getName() + " is private", Modifier.isPrivate(method.getModifiers()) ? 1 : 0, 1);
            }
        }
        Due.is("the face: " + found, found.equals(new TreeSet<>(Arrays.asList(FACE.split(" ")))) ? 1 : 0, 1);
        for (Field field : ShopsOnFloor.class.getDeclaredFields()) {
            boolean isConstant = List.of("NONE", "BAD", "NOT", "FULL").contains(field.getName());
            Due.is(field.getName() + " is public", Modifier.isPublic(field.getModifiers()) ? 1 : 0, isConstant ? 1 : 0);
            Due.is(field.getName() + " is private", Modifier.isPrivate(field.getModifiers()) ? 1 : 0,
                    isConstant ? 0 : 1);
        }
    }

    private static void classesInside() {
        String names = " " + FACE.replaceAll("\\([^)]*\\)", "") + " ";
        Class<?>[] inside = ShopsOnFloor.class.getDeclaredClasses();
        Due.is("some twelve classes", inside.length + 1 <= 12 ? 1 : 0, 1);
        for (Class<?> one : inside) {
            Due.is(one.getName() + " is static", Modifier.isStatic(one.getModifiers()) ? 1 : 0, 1);
            Due.is(one.getName() + " is public", Modifier.isPublic(one.getModifiers()) ? 1 : 0, 0);
            for (Method method : one.getDeclaredMethods()) {
                boolean isOfFace = names.contains(" " + method.getName() + " ");
                boolean isPrivate = Modifier.isPrivate(method.getModifiers());
                Due.is(one.getName() + "." + method.getName() + " bears a public name", isOfFace && isPrivate ? 1 : 0, 0);
            }
            members(one);
        }
        members(ShopsOnFloor.class);
    }

    private static void members(Class<?> one) {
        int fields = 0;
        for (Field field : one.getDeclaredFields()) {
            boolean isStatic = Modifier.isStatic(field.getModifiers());
            boolean isFinal = Modifier.isFinal(field.getModifiers());
            Due.is(field + " is no state of all objects", isStatic && !isFinal ? 1 : 0, 0);
            Due.is(field + " is of numbers or of a class inside", isOfNumbersOrInside(field.getType()) ? 1 : 0, 1);
            fields += isStatic ? 0 : 1;
        }
        Due.is("fields of " + one.getName(), fields <= 20 ? 1 : 0, 1);
        for (Method method : one.getDeclaredMethods()) {
            Due.is("parameters of " + method, method.getParameterCount() <= 7 ? 1 : 0, 1);
        }
    }

    private static boolean isOfNumbersOrInside(Class<?> type) {
        return type == int.class || type == boolean.class || type == int[].class
                || Arrays.asList(ShopsOnFloor.class.getDeclaredClasses()).contains(type);
    }

    private static void signs(String text) {
        for (int i = 0; i < text.length(); i++) {
            char sign = text.charAt(i);
            if (sign != '\n' && (sign < 32 || sign > 126)) {
                Due.is("the sign at " + i, sign, ' ');
            }
        }
    }

    /** A method begins on a line that ends it with a brace, and ends with a brace as far to the right as it begins. */
    private static void lengths(String text) {
        String[] lines = text.split("\n");
        int methods = 0;
        for (int first = 0; first < lines.length; first++) {
            String line = lines[first];
            String right = line.substring(0, line.length() - line.stripLeading().length());
            boolean isMember = right.length() == 4 || right.length() == 8;
            if (isMember && line.matches("\\s+(public |private |static )*[\\w\\[\\]]+( \\w+)?\\([^()]*\\) \\{")) {
                int last = Arrays.asList(lines).subList(first, lines.length).indexOf(right + "}");
                Due.is("lines of " + line.strip() + " " + last, last > 0 && last < 60 ? 1 : 0, 1);
                methods++;
            }
        }
        Due.is("methods were found", methods > 80 ? 1 : 0, 1);
    }

    private static String withoutComments(String text) {
        return text.replaceAll("(?s)/\\*.*?\\*/", "").replaceAll("//[^\n]*", "");
    }

    private static void words(String code) {
        List<String> forbidden = List.of("throw", "try", "catch", "synchronized", "assert", "import", "package",
                "instanceof", "->", "::", "System", "Thread", "Random", "\"");
        for (String word : forbidden) {
            String pattern = Character.isLetter(word.charAt(0)) ? "(?s).*\\b" + word + "\\b.*" : "(?s).*" + word + ".*";
            Due.is("the class has the word " + word, code.matches(pattern) ? 1 : 0, 0);
        }
        int indexed = code.split("\\w\\[", -1).length - 1;
        Due.is("arrays are indexed in Row alone: its field, its making, get and set", indexed, 4);
    }

    /** All calls of a run share one room, so a call may not fill it. */
    private static void callsMakeNothing() {
        com.sun.management.ThreadMXBean room = (com.sun.management.ThreadMXBean) ManagementFactory.getThreadMXBean();
        ShopsOnFloor first = fullFloor();
        allCalls(first);
        ShopsOnFloor second = fullFloor();
        long before = room.getCurrentThreadAllocatedBytes();
        long between = room.getCurrentThreadAllocatedBytes();
        allCalls(second);
        long after = room.getCurrentThreadAllocatedBytes();
        Due.is("bytes made by all calls", after - between - (between - before), 0);
        long madeByTwo = room.getCurrentThreadAllocatedBytes();
        new ShopsOnFloor();
        long madeByNew = room.getCurrentThreadAllocatedBytes() - madeByTwo;
        Due.is("a new object takes 60000 bytes at most", madeByNew <= 60_000 ? 1 : 0, 1);
    }

    private static ShopsOnFloor fullFloor() {
        ShopsOnFloor s = new ShopsOnFloor();
        for (int slot = 0; slot < 6; slot++) {
            s.slot(slot, slot % 2 * 3);
            s.shop();
        }
        for (int year = 0; year < 4; year++) {
            for (int shop = 0; shop < 4; shop++) {
                s.load(year, shop, shop + 1, 9 * year + shop);
            }
        }
        return s;
    }

    private static void allCalls(ShopsOnFloor s) {
        s.exit(5, 5, true);
        s.column(3, 3, true);
        s.bound(40);
        s.weight(2, 3);
        s.wish(0, 4, true, 9);
        s.wish(1, 3, false, 2);
        s.unwish(0);
        for (int year = 0; year < 4; year++) {
            s.cost(year);
            s.best(year);
            s.many(year);
            s.floor(year);
            s.put(7465);
            s.settled(year);
            s.climb(year);
            s.take(year);
            s.plan(year + 1);
            s.planned(year + 1, year);
            s.move(7465);
            s.step(7465, year);
        }
        s.far(0, 5);
        s.out(3);
        s.count(4);
        s.places();
    }
}
