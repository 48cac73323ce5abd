import java.io.IOException;
import java.lang.reflect.InvocationTargetException;
import java.lang.reflect.Method;
import java.util.Arrays;
import java.util.Comparator;

/**
 * Each sentence of the document by itself, at its boundaries: every test names by Says the words that
 * it holds the class to, and no word of the terms and promises is left without a test.
 */
public final class BoundariesTest {
    private static final Class<?>[] TESTS = {
        RefusalBoundaries.class, PadBoundaries.class, LikenessBoundaries.class, PriceBoundaries.class,
        WordBoundaries.class, SideBoundaries.class};

    private BoundariesTest() {
    }

    public static void main(String[] args) throws IOException, IllegalAccessException {
        Document document = new Document();
        int tests = 0;
        for (Class<?> tested : TESTS) {
            Method[] methods = tested.getDeclaredMethods();
            Arrays.sort(methods, Comparator.comparing(Method::getName));
            for (Method method : methods) {
                if (method.isAnnotationPresent(Says.class)) {
                    tests++;
                    run(document, method);
                }
            }
        }
        Due.at("");
        for (String at : document.names()) {
            if (at.startsWith("Terms") || at.startsWith("Promise")) {
                String left = document.unclaimed(at);
                Due.holds(at + " has words without a test: " + left, left.isEmpty());
            }
        }
        System.out.println(tests + " tests of sentences");
        Due.end();
    }

    private static void run(Document document, Method test) throws IllegalAccessException {
        Says says = test.getAnnotation(Says.class);
        for (String words : says.words()) {
            Due.holds("'" + words + "' stands once at " + says.at(), document.claim(says.at(), words));
        }
        Due.at(says.at() + " '" + String.join("' '", says.words()) + "' " + test.getName() + ": ");
        int before = Due.checked();
        try {
            test.invoke(null);
        } catch (InvocationTargetException thrown) {
            Due.holds("nothing is thrown, but " + thrown.getCause(), false);
        }
        Due.holds("something was checked", Due.checked() > before);
    }
}
