import java.io.IOException;
import java.nio.file.Files;
import java.nio.file.Path;
import java.util.ArrayList;
import java.util.LinkedHashMap;
import java.util.List;
import java.util.Map;

/**
 * The document, section by section. A test of an edge is run under the words of the document that
 * name it, so that a row that fails tells the words, and words without a test are found.
 */
final class Document {
    private static final String FIRST_SECTION = "What it is";
    private static final String LAST_SECTION = "Not promised";
    private static final Map<String, List<String>> SENTENCES = new LinkedHashMap<>();
    private static final List<String> TESTED = new ArrayList<>();

    private Document() {
    }

    static void read(Path file) throws IOException {
        String section = "";
        for (String line : Files.readAllLines(file)) {
            String words = plain(line);
            if (words.startsWith("#")) {
                section = words.replaceAll("^#+ ", "");
                SENTENCES.put(section, new ArrayList<>());
            } else if (!words.isEmpty() && !words.startsWith("```") && !section.isEmpty()) {
                SENTENCES.get(section).addAll(List.of(words.replaceAll("^- ", "").split("(?<=[.;]) ")));
            }
        }
    }

    private static String plain(String words) {
        return words.trim().replaceAll("\\s+", " ");
    }

    /** The section may be told by the beginning of its head, as "Promise 2:". */
    static void test(String section, String words, Runnable test) {
        String head = headOf(section);
        Check.under(section + " \"" + words + "\"");
        Check.that("stands in the document", standsIn(head, words));
        int before = Check.answers();
        test.run();
        Check.that("has an answer to look at", Check.answers() > before);
        Check.under("");
        TESTED.add(head + "|" + words);
    }

    private static String headOf(String section) {
        for (String head : SENTENCES.keySet()) {
            if (head.equals(section) || head.startsWith(section + ":")) {
                return head;
            }
        }
        return "";
    }

    private static boolean standsIn(String head, String words) {
        return String.join(" ", sentences(head)).contains(words);
    }

    static List<String> sentences(String section) {
        return SENTENCES.getOrDefault(headOf(section), List.of());
    }

    static void everySentenceHasATest() {
        boolean isWithin = false;
        for (Map.Entry<String, List<String>> section : SENTENCES.entrySet()) {
            isWithin = (isWithin || section.getKey().equals(FIRST_SECTION))
                && !section.getKey().equals(LAST_SECTION);
            for (String sentence : section.getValue()) {
                if (isWithin) {
                    Check.that(section.getKey() + ": a test for: " + sentence, isTested(section.getKey(), sentence));
                }
            }
        }
        Check.that("the document has been read", SENTENCES.containsKey(LAST_SECTION));
    }

    private static boolean isTested(String head, String sentence) {
        for (String tested : TESTED) {
            String words = tested.substring(tested.indexOf('|') + 1);
            if (tested.startsWith(head + "|") && (sentence.contains(words) || words.contains(sentence))) {
                return true;
            }
        }
        return false;
    }
}
