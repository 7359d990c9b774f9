import java.io.IOException;
import java.io.UncheckedIOException;
import java.nio.file.Files;
import java.nio.file.Path;
import java.util.ArrayList;
import java.util.LinkedHashMap;
import java.util.List;
import java.util.Map;

/**
 * The sentences of ../shared/DOC.md. A test names the sentence that it is for; a sentence that no test names, and a
 * test that names what the document doesn't say, count as wrong.
 */
final class Doc {
    interface Test {
        void run();
    }

    private static final Path FILE = Path.of("../shared/DOC.md");

    private final Check check;
    private final Map<String, List<String>> sentences = new LinkedHashMap<>();
    private final Map<String, List<String>> tested = new LinkedHashMap<>();

    Doc(Check check) {
        this.check = check;
        if (!isThere()) {
            System.out.println("no " + FILE + ": the tests run, but their sentences are not compared with it");
            return;
        }
        String whole = text();
        readWhatItIs(part("## What it is", "## The public face"));
        readTerms(part("## Terms", "<p>Examples"));
        for (int promise = 1; promise <= 42; promise++) {
            int from = whole.indexOf("## Promise " + promise + ":");
            int to = whole.indexOf("\n## ", from + 1);
            readPromise("Promise " + promise, whole.substring(from, to));
        }
    }

    static boolean isThere() {
        return Files.isReadable(FILE);
    }

    private static String text() {
        try {
            return Files.readString(FILE);
        } catch (IOException unreadable) {
            throw new UncheckedIOException(unreadable);
        }
    }

    /** What stands between two marks, each of which must be there. */
    static String part(String begin, String end) {
        String whole = text();
        int from = whole.indexOf(begin);
        int to = whole.indexOf(end, from + begin.length());
        if (from < 0 || to < 0) {
            throw new IllegalStateException("no " + begin + " .. " + end + " in " + FILE);
        }
        return whole.substring(from + begin.length(), to);
    }

    /** The first paragraph names one thing behind the other; each of them counts as a sentence here. */
    private void readWhatItIs(String text) {
        String[] paragraphs = text.trim().split("\n\\s*\n");
        List<String> found = new ArrayList<>(List.of(paragraphs[0].replaceAll("\\s+", " ").split("(?<=[:,]) ")));
        for (int i = 1; i < paragraphs.length; i++) {
            found.addAll(List.of(paragraphs[i].replaceAll("\\s+", " ").split("(?<=[.;]) ")));
        }
        sentences.put("What it is", found);
    }

    private void readTerms(String terms) {
        for (String paragraph : terms.trim().split("\n\\s*\n")) {
            String plain = paragraph.replaceAll("\\s+", " ").trim();
            String title = plain.matches("(No|A) .*") ? plain.substring(0, 6).trim() : plain.substring(0, plain.indexOf('.'));
            List<String> found = new ArrayList<>(List.of(plain.split("(?<=[.;]) ")));
            found.remove(title + ".");
            sentences.put(title, found);
        }
    }

    private void readPromise(String title, String text) {
        List<String> found = new ArrayList<>();
        for (String paragraph : text.split("\n\\s*\n|\n(?=- )")) {
            String plain = paragraph.replaceAll("\\s+", " ").trim();
            if (!plain.startsWith("## ") && !plain.isEmpty()) {
                found.add(plain.startsWith("`") ? plain.substring(plain.indexOf("`:") + 2).trim() : plain);
            }
        }
        sentences.put(title, found);
    }

    /** Runs a test for a sentence, or for a part of one that ends with a semicolon. */
    void test(String title, String sentence, Test test) {
        check.yes("the document says under " + title + ": " + sentence,
                !isThere() || sentences.containsKey(title) && sentences.get(title).contains(sentence));
        tested.computeIfAbsent(title, none -> new ArrayList<>()).add(sentence);
        int before = check.count();
        test.run();
        check.yes("the test for this checks something: " + sentence, check.count() > before);
    }

    /** Each sentence under these titles must have had its test. */
    void allTested(String... titles) {
        for (String title : titles) {
            check.yes("the document has " + title, !isThere() || sentences.containsKey(title));
            List<String> left = new ArrayList<>(sentences.getOrDefault(title, List.of()));
            left.removeAll(tested.getOrDefault(title, List.of()));
            check.same("sentences without a test under " + title, List.of(), left);
        }
    }
}
