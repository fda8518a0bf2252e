import java.lang.reflect.Method;
import java.util.ArrayList;
import java.util.List;

/** That no promise and no section of the Terms is without boundary cases of its own. */
public final class EdgesTest {
    private static final int PROMISES = 26;
    private static final int SECTIONS = 3;

    public static void main(String[] args) {
        List<String> cases = new ArrayList<>();
        Class<?>[] edges = {EdgesOfTermsTest.class, EdgesOfFloorTest.class, EdgesOfShopsTest.class,
            EdgesOfPlacesTest.class, EdgesOfPlansTest.class};
        for (Class<?> tests : edges) {
            for (Method method : tests.getDeclaredMethods()) {
                cases.add(method.getName());
            }
        }
        for (int promise = 1; promise <= PROMISES; promise++) {
            areCasesOf(String.format("promise%02d_", promise), cases);
        }
        for (int section = 1; section <= SECTIONS; section++) {
            areCasesOf("terms" + section + "_", cases);
        }
        Due.end();
    }

    private static void areCasesOf(String begin, List<String> cases) {
        int found = 0;
        for (String name : cases) {
            found += name.startsWith(begin) ? 1 : 0;
        }
        Due.is("three cases or more of " + begin, found >= 3 ? 1 : 0, 1);
    }
}
