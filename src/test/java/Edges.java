import java.io.IOException;
import java.nio.file.Files;
import java.nio.file.Path;
import java.util.LinkedHashMap;
import java.util.Map;

/**
 * Tests of boundary cases, each with the sentence of the document that it is of: the sentence must stand in the
 * named section of ../shared/DOC.md word by word, and at the end no word of the promises and of 'Terms' may be left
 * without a test. So a sentence that is altered or added there shows which test must be read again, or is missing.
 */
final class Edges {
    private static final Path DOCUMENT = Path.of("../shared/DOC.md");
    private static final Map<String, String> SECTIONS = new LinkedHashMap<>();
    private static final Map<String, boolean[]> TESTED = new LinkedHashMap<>();

    private Edges() {
    }

    /** One test: the section and sentence of the document, the edge that is looked at, and the calls. */
    static void of(String section, String sentence, String edge, String lines) {
        String name = section + ", '" + sentence + "': " + edge;
        quote(section, sentence, name);
        Script.run(name, lines);
    }

    static void readDocument() throws IOException {
        if (!Files.isReadable(DOCUMENT)) {
            System.out.println("no " + DOCUMENT + ": the sentences are not compared with it");
            return;
        }
        for (String part : Files.readString(DOCUMENT).split("(?m)^## ")) {
            String head = part.lines().findFirst().orElse("");
            String body = part.substring(head.length()).replaceAll("```\\w*", " ").replaceAll("\\s+", " ").strip();
            boolean isPromise = head.startsWith("Promise ");
            String key = isPromise ? head.substring(0, head.indexOf(':')) : head;
            SECTIONS.put(key, isPromise ? body.substring(body.indexOf("`: ") + 3) : body);
        }
    }

    private static void quote(String section, String sentence, String name) {
        if (SECTIONS.isEmpty()) {
            return;
        }
        String text = SECTIONS.getOrDefault(section, "");
        boolean[] tested = TESTED.computeIfAbsent(section, key -> new boolean[text.length()]);
        int at = text.indexOf(sentence);
        if (at < 0) {
            Script.fail("the document has no such sentence: " + name);
        }
        for (int from = at; from >= 0; from = text.indexOf(sentence, from + 1)) {
            for (int i = from; i < from + sentence.length(); i++) {
                tested[i] = true;
            }
        }
    }

    static void everySentenceHasATest() {
        for (Map.Entry<String, String> section : SECTIONS.entrySet()) {
            if (section.getKey().startsWith("Promise ") || section.getKey().equals("Terms")) {
                String rest = untested(section.getKey(), section.getValue());
                if (!rest.isEmpty()) {
                    Script.fail(section.getKey() + " has words without a test: " + rest);
                }
            }
        }
    }

    private static String untested(String section, String text) {
        boolean[] tested = TESTED.getOrDefault(section, new boolean[text.length()]);
        StringBuilder rest = new StringBuilder();
        for (int i = 0; i < text.length(); i++) {
            boolean isGap = tested[i] || !Character.isLetterOrDigit(text.charAt(i));
            if (!isGap) {
                rest.append(text.charAt(i));
            } else if (rest.length() > 0 && rest.charAt(rest.length() - 1) != ' ') {
                rest.append(' ');
            }
        }
        return rest.toString().strip();
    }

    /** The line so many times, with the number of the time, from 0 on, for each '#', and from 1 on for each '@'. */
    static String times(int count, String line) {
        StringBuilder lines = new StringBuilder();
        for (int i = 0; i < count; i++) {
            lines.append(line.replace("#", Integer.toString(i)).replace("@", Integer.toString(i + 1))).append('\n');
        }
        return lines.toString();
    }

    /** So many hours on an object whose calls do not wait. */
    static String hours(int hours) {
        String rest = hours % 2000 == 0 ? "" : "tick(" + hours % 2000 + ") = 0\n";
        return times(hours / 2000, "tick(2000) = 0") + rest;
    }
}
