import java.io.IOException;
import java.nio.file.Files;
import java.nio.file.Path;
import java.util.LinkedHashMap;
import java.util.LinkedHashSet;
import java.util.Map;
import java.util.Set;

/** The sentences of the document: each one is tested under its own words, and none is left over. */
final class Doc {
    private static final Path DOCUMENT = Path.of("../shared/DOC.md");
    private static final Map<String, Set<String>> sentences = new LinkedHashMap<>();
    private static final Map<String, Set<String>> left = new LinkedHashMap<>();
    private static String part = "";
    private static String tested = "";
    private static int checksBefore = 0;

    private Doc() {
    }

    static void read() throws IOException {
        for (String section : Files.readString(DOCUMENT).split("\n## ")) {
            String name = section.split("[:\n]")[0];
            if (name.equals("Description") || name.startsWith("Promise ")) {
                sentences.put(name, sentencesOf(section.substring(section.indexOf('\n'))));
                left.put(name, new LinkedHashSet<>(sentences.get(name)));
            }
        }
    }

    /** Signatures, headings and parameters that name no number say nothing to test. */
    private static Set<String> sentencesOf(String section) {
        Set<String> found = new LinkedHashSet<>();
        for (String paragraph : section.split("\n\n|\n(?=- )")) {
            String text = paragraph.replaceAll("\\s+", " ").trim();
            boolean isParameter = text.startsWith("- ");
            if (!text.startsWith("`") && !text.startsWith("----") && (!isParameter || text.matches(".*\\d.*"))) {
                for (String sentence : text.split("(?<=\\.) ")) {
                    found.add(sentence);
                }
            }
        }
        found.removeIf(sentence -> sentence.matches("|\\w+\\.|Jump threading\\."));
        return found;
    }

    static int promises() {
        return sentences.size() - 1;
    }

    static void description() {
        part = "Description";
    }

    static void promise(int number) {
        part = "Promise " + number;
    }

    /** The checks that follow test these sentences of the part. */
    static void says(String... words) {
        close();
        tested = part + ", \"" + String.join(" ", words) + "\": ";
        Check.at(tested);
        for (String sentence : words) {
            Check.is("stands in the document", sentences.get(part).contains(sentence), true);
            left.get(part).remove(sentence);
        }
        checksBefore = Check.count();
    }

    private static void close() {
        if (!tested.isEmpty() && Check.count() == checksBefore) {
            Check.is("number of checks", 0, "at least 1");
        }
    }

    static void end() {
        close();
        Check.at("");
        for (String name : left.keySet()) {
            Check.is(name + ": sentences without a test", left.get(name), Set.of());
        }
    }
}
