import java.io.IOException;
import java.io.UncheckedIOException;
import java.nio.file.Files;
import java.nio.file.Path;
import java.util.ArrayList;
import java.util.LinkedHashMap;
import java.util.List;
import java.util.Map;

/**
 * The sentences of ../shared/DOC.md. A test names the sentence that it is for; a sentence that no test names, and a
 * test that names what the document doesn't say, count as wrong.
 */
final class Doc {
    interface Test {
        void run();
    }

    private final Check check;
    private final boolean isThere;
    private final Map<String, List<String>> sentences = new LinkedHashMap<>();
    private final Map<String, List<String>> tested = new LinkedHashMap<>();

    Doc(Check check) {
        this.check = check;
        Path file = Path.of("../shared/DOC.md");
        isThere = Files.isReadable(file);
        if (!isThere) {
            System.out.println("no " + file + ": the tests run, but their sentences are not compared with it");
            return;
        }
        String whole;
        try {
            whole = Files.readString(file);
        } catch (IOException unreadable) {
            throw new UncheckedIOException(unreadable);
        }
        readTerms(whole.substring(whole.indexOf("## Terms") + 8, whole.indexOf("<p>Examples")));
        for (int promise = 1; promise <= 42; promise++) {
            int from = whole.indexOf("## Promise " + promise + ":");
            int to = whole.indexOf("\n## ", from + 1);
            readPromise("Promise " + promise, whole.substring(from, to));
        }
    }

    private void readTerms(String terms) {
        for (String paragraph : terms.trim().split("\n\\s*\n")) {
            String plain = paragraph.replaceAll("\\s+", " ").trim();
            String title = plain.matches("(No|A) .*") ? plain.substring(0, 6).trim() : plain.substring(0, plain.indexOf('.'));
            List<String> found = new ArrayList<>(List.of(plain.split("(?<=[.;]) ")));
            found.remove(title + ".");
            sentences.put(title, found);
        }
    }

    private void readPromise(String title, String text) {
        List<String> found = new ArrayList<>();
        for (String paragraph : text.split("\n\\s*\n|\n(?=- )")) {
            String plain = paragraph.replaceAll("\\s+", " ").trim();
            if (!plain.startsWith("## ") && !plain.isEmpty()) {
                found.add(plain.startsWith("`") ? plain.substring(plain.indexOf("`:") + 2).trim() : plain);
            }
        }
        sentences.put(title, found);
    }

    /** Runs a test for a sentence, or for a part of one that ends with a semicolon. */
    void test(String title, String sentence, Test test) {
        check.yes("the document says under " + title + ": " + sentence,
                !isThere || sentences.containsKey(title) && sentences.get(title).contains(sentence));
        tested.computeIfAbsent(title, none -> new ArrayList<>()).add(sentence);
        int before = check.count();
        test.run();
        check.yes("the test for this checks something: " + sentence, check.count() > before);
    }

    /** Each sentence under these titles must have had its test. */
    void allTested(String... titles) {
        for (String title : titles) {
            check.yes("the document has " + title, !isThere || sentences.containsKey(title));
            List<String> left = new ArrayList<>(sentences.getOrDefault(title, List.of()));
            left.removeAll(tested.getOrDefault(title, List.of()));
            check.same("sentences without a test under " + title, List.of(), left);
        }
    }
}
