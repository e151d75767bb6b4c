import java.io.IOException;
import java.nio.charset.StandardCharsets;
import java.nio.file.Files;
import java.nio.file.Path;
import java.util.LinkedHashMap;
import java.util.Map;

/** The document: whether a sentence stands in it, and which of its words no test has quoted. */
final class Doc {
    private static final Path PLACE = Path.of("..", "shared", "DOC.md");

    private final Map<String, String> sections = new LinkedHashMap<>();
    private final Map<String, boolean[]> quoted = new LinkedHashMap<>();

    Doc() {
        String name = "";
        StringBuilder body = new StringBuilder();
        for (String line : lines()) {
            if (line.startsWith("## ")) {
                keep(name, body.toString());
                name = line.substring(3).split(":")[0];
                body.setLength(0);
            } else if (!line.startsWith("```")) {
                body.append(line).append(' ');
            }
        }
        keep(name, body.toString());
    }

    private static Iterable<String> lines() {
        try {
            return Files.readAllLines(PLACE, StandardCharsets.UTF_8);
        } catch (IOException e) {
            throw new IllegalStateException("the document is not at " + PLACE, e);
        }
    }

    /** Without the signature of a promise and the number of a part: these are no sentences. */
    private void keep(String name, String body) {
        String plain = body.replaceAll("\\s+", " ").trim().replaceFirst("^`[^`]*`: ", "").replace("==== 2. ", "");
        sections.put(name, plain);
        quoted.put(name, new boolean[plain.length()]);
    }

    /** Marks each place of the sentence in the section; false: it has none. */
    boolean quote(String section, String sentence) {
        String body = sections.getOrDefault(section, "");
        int at = body.indexOf(sentence);
        boolean found = at >= 0;
        while (at >= 0) {
            java.util.Arrays.fill(quoted.get(section), at, at + sentence.length(), true);
            at = body.indexOf(sentence, at + 1);
        }
        return found;
    }

    /** The letters and digits of the Terms and the promises that no quote has held. */
    String leftOut() {
        StringBuilder left = new StringBuilder();
        for (Map.Entry<String, String> section : sections.entrySet()) {
            if (section.getKey().equals("Terms") || section.getKey().startsWith("Promise ")) {
                String words = wordsLeftOut(section.getValue(), quoted.get(section.getKey()));
                if (!words.isEmpty()) {
                    left.append('[').append(section.getKey()).append(": ").append(words).append(']');
                }
            }
        }
        return left.toString();
    }

    private static String wordsLeftOut(String body, boolean[] marks) {
        StringBuilder left = new StringBuilder();
        for (int i = 0; i < marks.length; i++) {
            if (!marks[i]) {
                left.append(body.charAt(i));
            }
        }
        return left.toString().replaceAll("[^A-Za-z0-9]+", " ").trim();
    }
}
