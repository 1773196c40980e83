import java.lang.reflect.Method;
import java.util.ArrayList;
import java.util.Set;
import java.util.TreeSet;

/** Each of the promises 1 to 53, and both Terms, have tests of their edges. */
public final class SentencesTest {
    private static final Class<?>[] TESTS = {
        TermsEdgesTest.class, TextsEdgesTest.class, ThereEdgesTest.class, ProofsEdgesTest.class, VersionsEdgesTest.class,
        ChangesEdgesTest.class, KeptEdgesTest.class,
    };

    public static void main(String[] args) {
        Set<String> found = new TreeSet<>();
        int sentences = 0;
        for (Class<?> tests : TESTS) {
            for (Method m : tests.getDeclaredMethods()) {
                Edges.Says says = m.getAnnotation(Edges.Says.class);
                if (says != null) {
                    sentences++;
                    found.add(says.value().replaceAll(":.*", ""));
                }
            }
        }
        ArrayList<String> missing = new ArrayList<>();
        for (int promise = -1; promise <= 53; promise++) {
            String name = promise == -1 ? "T1" : promise == 0 ? "T2" : Integer.toString(promise);
            if (!found.contains(name)) {
                missing.add(name);
            }
        }
        if (!missing.isEmpty()) {
            System.out.println("SentencesTest: no edges of " + missing);
            System.exit(1);
        }
        System.out.println("SentencesTest: " + sentences + " sentences have a test");
    }
}
