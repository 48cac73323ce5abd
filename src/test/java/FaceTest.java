import java.io.IOException;
import java.lang.reflect.Constructor;
import java.lang.reflect.Field;
import java.lang.reflect.Method;
import java.lang.reflect.Modifier;
import java.nio.file.Files;
import java.nio.file.Path;
import java.util.ArrayList;
import java.util.HashSet;
import java.util.List;
import java.util.Set;
import java.util.TreeSet;

/** The public face is the document's and no more, and the source keeps to what LANGUAGE.md leaves. */
public final class FaceTest {
    private static final Path SOURCE = Path.of("src/main/java/SaidAlready.java");
    private static final Path DOCUMENT = Path.of("../shared/DOC.md");
    // What the machine throws is tested for ahead, never caught: by its own name or by a class above it.
    private static final String[] FORBIDDEN = {
        "package ", "::", "synchronized", "assert ", "finally", "Exact(", "NaN", "NullPointerException",
        "ArrayIndexOutOfBoundsException", "ClassCastException", "NegativeArraySizeException", "ArrayStoreException",
        "catch (IndexOutOfBoundsException", "catch (RuntimeException", "catch (Exception", "catch (Throwable"};

    private FaceTest() {
    }

    public static void main(String[] args) throws IOException {
        theFaceIsTheDocuments();
        constants();
        nothingElseIsSeen();
        noMethodInsideBearsAPublicName();
        theSourceKeepsToTheLanguage();
        Due.end();
    }

    private static void theFaceIsTheDocuments() throws IOException {
        Set<String> asked = new TreeSet<>();
        for (String line : Files.readAllLines(DOCUMENT)) {
            if (line.matches("    public (int|long) .*\\);")) {
                asked.add(line.strip().replaceAll("(int|long) [a-z]+(?=[,)])", "$1"));
            }
        }
        Set<String> there = new TreeSet<>();
        for (Method m : SaidAlready.class.getDeclaredMethods()) {
            if (Modifier.isPublic(m.getModifiers())) {
                List<String> types = new ArrayList<>();
                for (Class<?> type : m.getParameterTypes()) {
                    types.add(type.getSimpleName());
                }
                there.add("public " + m.getReturnType() + " " + m.getName() + "(" + String.join(", ", types) + ");");
            }
        }
        Due.due("calls of the document", asked.size(), 26);
        Due.holds("the calls are " + asked + ", not " + there, asked.equals(there));
        Due.holds("the class is final", Modifier.isFinal(SaidAlready.class.getModifiers()));
        Due.holds("the class is public", Modifier.isPublic(SaidAlready.class.getModifiers()));
        Constructor<?>[] constructors = SaidAlready.class.getDeclaredConstructors();
        Due.due("constructors", constructors.length, 1);
        Due.due("its parameters", constructors[0].getParameterCount(), 0);
        Due.holds("the constructor is public", Modifier.isPublic(constructors[0].getModifiers()));
    }

    private static void constants() {
        Due.due("NONE", SaidAlready.NONE, -6);
        Due.due("UNKNOWN", SaidAlready.UNKNOWN, -1);
        Due.due("OUTSIDE", SaidAlready.OUTSIDE, -2);
        Due.due("STATE", SaidAlready.STATE, -3);
        Due.due("FULL", SaidAlready.FULL, -4);
        Due.due("NO", SaidAlready.NO, -5);
        Due.due("LOST", SaidAlready.LOST, -1000000000000000000L);
    }

    private static void nothingElseIsSeen() {
        int constants = 0;
        for (Field f : SaidAlready.class.getDeclaredFields()) {
            if (Modifier.isPublic(f.getModifiers())) {
                constants++;
                Due.holds(f + " is a constant", Modifier.isStatic(f.getModifiers()) && Modifier.isFinal(f.getModifiers()));
            } else {
                Due.holds(f + " is private", Modifier.isPrivate(f.getModifiers()));
            }
        }
        Due.due("public constants", constants, 7);
        for (Method m : SaidAlready.class.getDeclaredMethods()) {
            Due.holds(m + " is public or private", Modifier.isPublic(m.getModifiers()) || Modifier.isPrivate(m.getModifiers()));
        }
        Class<?>[] inside = SaidAlready.class.getDeclaredClasses();
        Due.holds("some twelve classes at most", inside.length <= 11);
        for (Class<?> c : inside) {
            Due.holds(c + " is static", Modifier.isStatic(c.getModifiers()));
            Due.holds(c + " is not public", !Modifier.isPublic(c.getModifiers()) && !Modifier.isProtected(c.getModifiers()));
            for (Field f : c.getDeclaredFields()) {
                Due.holds(f + " is no static state", !Modifier.isStatic(f.getModifiers()) || Modifier.isFinal(f.getModifiers()));
            }
        }
    }

    private static void noMethodInsideBearsAPublicName() {
        Set<String> names = new HashSet<>();
        for (Method m : SaidAlready.class.getDeclaredMethods()) {
            if (Modifier.isPublic(m.getModifiers())) {
                names.add(m.getName());
            }
        }
        for (Method m : SaidAlready.class.getDeclaredMethods()) {
            Due.holds(m + " bears its own name", Modifier.isPublic(m.getModifiers()) || !names.contains(m.getName()));
        }
        for (Class<?> c : SaidAlready.class.getDeclaredClasses()) {
            for (Method m : c.getDeclaredMethods()) {
                Due.holds(m + " bears its own name", !names.contains(m.getName()));
            }
        }
    }

    /** What can be read off the source; LANGUAGE.md's numbers stand in brackets. */
    private static void theSourceKeepsToTheLanguage() throws IOException {
        List<String> lines = Files.readAllLines(SOURCE);
        int line = 0;
        int begun = 0;
        for (String text : lines) {
            line++;
            String code = text.replaceAll("//.*|^ *(/\\*\\*|\\*).*", "");
            for (String word : FORBIDDEN) {
                Due.holds("line " + line + " is without '" + word + "' (2, 4, 6)", !code.contains(word));
            }
            Due.holds("line " + line + " has no lambda (2)",
                    !code.contains("->") || code.strip().matches("(case|default)\\b.*"));
            Due.holds("line " + line + " uses System for arraycopy alone (4, 13)",
                    !code.replace("System.arraycopy", "").contains("System."));
            Due.holds("line " + line + " uses functions of Integer, Long and Math alone (4)",
                    !code.matches(".*\\b(Integer|Long|Math)\\.(?![a-z][A-Za-z]*\\().*"));
            Due.holds("line " + line + " imports what rules 4 and 6 list",
                    !code.startsWith("import ") || code.matches(
                            "import java\\.util\\.(ArrayList|Arrays|Iterator|List|NoSuchElementException);"));
            if (text.matches("( {4}| {8})[a-zA-Z].*\\) \\{")) {
                begun = line;
            }
            if (text.matches("( {4}| {8})\\}") && begun > 0) {
                Due.holds("the method at line " + begun + " is short (11)", line - begun <= 70);
                begun = 0;
            }
        }
    }
}
