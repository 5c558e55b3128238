import java.io.IOException;
import java.io.UncheckedIOException;
import java.nio.file.Files;
import java.nio.file.Path;
import java.util.ArrayList;
import java.util.List;
import java.util.Map;
import java.util.TreeMap;

/** Tests that stand for one sentence of the document each, and the search for sentences without a test. */
final class Sentences {
    private static final Path DOCUMENT = Path.of("../shared/DOC.md");
    private static final List<String> TERMS = List.of("Trucks, dishes and stock", "Rota and permits", "Days and weather",
            "One minute", "Scripts", "Changes");

    private static final Map<String, List<String>> TESTED = new TreeMap<>();

    private Sentences() {
    }

    /** Runs the test of a sentence below a head of the document; a part of a long sentence may stand for the whole. */
    static void test(String head, String sentence, Runnable body) {
        TESTED.computeIfAbsent(head, key -> new ArrayList<>()).add(sentence);
        Check.test(head + ": " + sentence, body);
    }

    /** Runs the test of a promise's "Throws" row. */
    static void testThrows(int promise, Class<? extends RuntimeException> kind, String reason, Runnable body) {
        test("Promise " + promise, "Throws `" + kind.getSimpleName() + "` " + reason, body);
    }

    static void run() {
        Map<String, List<String>> document = read();
        Check.test("the quoted sentences stand in the document", () -> quotesAreRight(document));
        Check.test("each sentence of the terms and of the promises has a test", () -> nothingIsMissing(document));
    }

    private static void quotesAreRight(Map<String, List<String>> document) {
        for (String head : TESTED.keySet()) {
            List<String> written = document.getOrDefault(head, List.of());
            for (String quote : TESTED.get(head)) {
                boolean stands = written.stream().anyMatch(sentence -> sentence.contains(quote));
                Check.same(head + " says \"" + quote + "\"", stands, true);
            }
        }
    }

    private static void nothingIsMissing(Map<String, List<String>> document) {
        int needed = 0;
        for (String head : document.keySet()) {
            List<String> quotes = TESTED.getOrDefault(head, List.of());
            for (String sentence : document.get(head)) {
                if (TERMS.contains(head) || head.startsWith("Promise ") && needsTest(sentence, document.get(head))) {
                    needed++;
                    Check.same(head + " has a test for \"" + sentence + "\"", quotes.stream().anyMatch(sentence::contains), true);
                }
            }
        }
        Check.same("sentences that were found", needed > 160, true);
    }

    /** All but the rows of the parameters, and but a "Returns" row that only says the description once more. */
    private static boolean needsTest(String sentence, List<String> promise) {
        boolean isRepeated = sentence.startsWith("Returns ") && promise.get(0).contains("`: Returns ");
        return !sentence.startsWith("- ") && !isRepeated;
    }

    /** The sentences below each head, with single spaces. */
    private static Map<String, List<String>> read() {
        Map<String, List<String>> document = new TreeMap<>();
        String head = "";
        StringBuilder paragraph = new StringBuilder();
        for (String line : lines()) {
            boolean isHead = line.startsWith("## ") || line.startsWith("<h2>");
            if (isHead || line.isBlank()) {
                addSentences(document, head, paragraph);
            }
            if (isHead) {
                head = line.replaceAll("^## |:.*$|</?h2>", "");
            } else {
                paragraph.append(line.trim()).append(' ');
            }
        }
        return document;
    }

    private static void addSentences(Map<String, List<String>> document, String head, StringBuilder paragraph) {
        String text = paragraph.toString().trim();
        if (!text.isEmpty()) {
            List<String> written = document.computeIfAbsent(head, key -> new ArrayList<>());
            written.addAll(List.of(text.split("(?<=\\.) (?=[A-Z])")));
        }
        paragraph.setLength(0);
    }

    private static List<String> lines() {
        try {
            return Files.readAllLines(DOCUMENT);
        } catch (IOException e) {
            throw new UncheckedIOException(e);
        }
    }
}
