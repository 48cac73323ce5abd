import java.io.IOException;
import java.lang.reflect.Method;
import java.lang.reflect.Modifier;
import java.nio.file.Files;
import java.nio.file.Path;
import java.util.HashMap;
import java.util.HashSet;
import java.util.Map;
import java.util.Set;
import java.util.regex.Matcher;
import java.util.regex.Pattern;

/**
 * What README.md shows is so: each call of its example gives the answer that stands behind it, and no
 * call of the face is left out.
 */
public final class ReadmeTest {
    private static final Path README = Path.of("README.md");
    private static final String BEGINNING = "SaidAlready memory = new SaidAlready();";
    private static final Pattern SAID = Pattern.compile("say\\(memory, \"([^\"]+)\"\\);");
    private static final Pattern CALL =
            Pattern.compile("memory\\.(\\w+)\\(([-0-9, ]*)\\); +// (-?\\d+|[A-Z]+|'.')(: .+)?");
    private static final Map<String, Method> CALLS = calls();

    private ReadmeTest() {
    }

    public static void main(String[] args) throws IOException, ReflectiveOperationException {
        // What the README's own helper calls is shown there.
        Set<String> shown = new HashSet<>(Set.of("say"));
        SaidAlready memory = null;
        boolean inside = false;
        for (String line : Files.readAllLines(README)) {
            inside = line.equals(BEGINNING) || inside && !line.startsWith("```");
            if (line.equals(BEGINNING)) {
                memory = new SaidAlready();
            } else if (inside && !line.isBlank() && !line.startsWith("// ")) {
                follow(memory, line, shown);
            }
        }
        Due.holds("README shows each call: " + shown, shown.equals(CALLS.keySet()));
        Due.end();
    }

    private static void follow(SaidAlready memory, String line, Set<String> shown) throws ReflectiveOperationException {
        Matcher said = SAID.matcher(line);
        Matcher call = CALL.matcher(line);
        if (said.matches()) {
            for (char sign : said.group(1).toCharArray()) {
                Due.holds(line + " finds room", memory.say(sign) > 0);
            }
        } else if (call.matches() && CALLS.containsKey(call.group(1))) {
            shown.add(call.group(1));
            Due.due(line, answer(memory, call.group(1), call.group(2)), due(call.group(3)));
        } else {
            Due.holds("README's line can be followed: " + line, false);
        }
    }

    private static long answer(SaidAlready memory, String name, String numbers) throws ReflectiveOperationException {
        String[] parts = numbers.isBlank() ? new String[0] : numbers.split(", ");
        Object[] given = new Object[parts.length];
        for (int i = 0; i < parts.length; i++) {
            given[i] = Integer.valueOf(parts[i]);
        }
        return ((Number) CALLS.get(name).invoke(memory, given)).longValue();
    }

    /** A number, a sign in quotes, or a constant by its name. */
    private static long due(String told) throws ReflectiveOperationException {
        if (told.startsWith("'")) {
            return told.charAt(1);
        }
        return told.matches("[A-Z]+") ? SaidAlready.class.getField(told).getLong(null) : Long.parseLong(told);
    }

    private static Map<String, Method> calls() {
        Map<String, Method> calls = new HashMap<>();
        for (Method method : SaidAlready.class.getDeclaredMethods()) {
            if (Modifier.isPublic(method.getModifiers())) {
                calls.put(method.getName(), method);
            }
        }
        return calls;
    }
}
