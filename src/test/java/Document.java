import java.io.IOException;
import java.nio.file.Files;
import java.nio.file.Path;
import java.util.LinkedHashMap;
import java.util.Map;

/** The document's sentences by where they stand, and which of them have been claimed by a test. */
final class Document {
    private static final Path PLACE = Path.of("../shared/DOC.md");

    private final Map<String, StringBuilder> parts = new LinkedHashMap<>();
    private final Map<String, boolean[]> claimed = new LinkedHashMap<>();

    Document() throws IOException {
        String at = "";
        for (String line : Files.readAllLines(PLACE)) {
            if (line.startsWith("## ")) {
                at = line.substring(3).replaceAll(":.*", "");
            } else if (line.startsWith("======== ")) {
                at = "Terms " + line.charAt(9);
                add(at, line.substring(11));
            } else if (isSaid(line)) {
                // What a call is named and takes is held by FaceTest.
                add(at, at.startsWith("Promise") ? line.replaceFirst("^`[^`]*`: ", "") : line);
            }
        }
        parts.forEach((name, words) -> claimed.put(name, new boolean[words.length()]));
    }

    /** The frames of texts, and how the calls are grouped, say nothing that a call could break. */
    private static boolean isSaid(String line) {
        return !line.startsWith("```") && !line.startsWith("Ahead of the calls");
    }

    private void add(String at, String line) {
        StringBuilder part = parts.computeIfAbsent(at, name -> new StringBuilder());
        if (!line.isBlank()) {
            part.append(part.length() == 0 ? "" : " ").append(line.strip());
        }
    }

    /** False, if the words do not stand there just once, so that they could not be found again. */
    boolean claim(String at, String words) {
        StringBuilder part = parts.get(at);
        int place = part == null ? -1 : part.indexOf(words);
        if (place < 0 || part.indexOf(words, place + 1) >= 0) {
            return false;
        }
        for (int i = place; i < place + words.length(); i++) {
            claimed.get(at)[i] = true;
        }
        return true;
    }

    /** The words there that no test has claimed. */
    String unclaimed(String at) {
        StringBuilder left = new StringBuilder();
        StringBuilder part = parts.get(at);
        for (int i = 0; i < part.length(); i++) {
            boolean isWord = Character.isLetterOrDigit(part.charAt(i));
            left.append(isWord && !claimed.get(at)[i] ? part.charAt(i) : ' ');
        }
        return left.toString().replaceAll(" +", " ").strip();
    }

    Iterable<String> names() {
        return parts.keySet();
    }
}
