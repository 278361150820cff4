import java.io.IOException;
import java.nio.file.Files;
import java.nio.file.Path;
import java.util.LinkedHashSet;
import java.util.Set;
import java.util.TreeSet;
import java.util.regex.Matcher;
import java.util.regex.Pattern;

/**
 * The sentences of ../shared/DOC.md that promise something: those of its terms (as promise 0) and those of each promise,
 * the lines on arguments and exceptions among them. It reads the file from the project's folder.
 */
final class Sentences {
    private static final Path DOCUMENT = Path.of("../shared/DOC.md");
    /** The words in bold, so to say, that begin a paragraph of the terms. */
    private static final Set<String> HEADINGS = Set.of("Ships and barnacles.", "Bids.", "Offers.", "Matching.",
            "Tides.", "Commands.", "Rejections.", "Changes.", "Exceptions.", "Further rules.");

    private final Set<String> due = new LinkedHashSet<>();
    private final Set<String> shown = new TreeSet<>();

    Sentences() throws IOException {
        String text = Files.readString(DOCUMENT);
        readTerms(between(text, "## Terms\n", "## Promise 1:"));
        Matcher promise = Pattern.compile("(?s)## Promise (\\d+): [^\n]*\n(.*?)(?=\n## )").matcher(text);
        while (promise.find()) {
            readPromise(promise.group(1), promise.group(2));
        }
    }

    /** Notes that a test shows the sentence, and returns whether the document has it. */
    boolean show(int promise, String sentence) {
        String key = promise + ": " + sentence;
        shown.add(key);
        return due.contains(key);
    }

    int count() {
        return due.size();
    }

    Set<String> notShown() {
        Set<String> rest = new LinkedHashSet<>(due);
        rest.removeAll(shown);
        return rest;
    }

    private void readTerms(String text) {
        for (String paragraph : text.strip().split("\n\n")) {
            if (!paragraph.startsWith("Ahead of the calls")) {
                readSentences("0", paragraph.replaceFirst("^The constants: ", ""));
            }
        }
    }

    private void readPromise(String promise, String text) {
        boolean isFirst = true;
        for (String paragraph : text.strip().split("\n\n")) {
            if (paragraph.startsWith("- ")) {
                for (String line : paragraph.split("\n")) {
                    due.add(promise + ": " + line.substring(2));
                }
            } else {
                // The first paragraph begins with the head of the method.
                readSentences(promise, isFirst ? paragraph.replaceFirst("^`[^`]*`: ", "") : paragraph);
            }
            isFirst = false;
        }
    }

    private void readSentences(String promise, String paragraph) {
        for (String sentence : paragraph.strip().split("(?<=\\.)\\s+(?=[A-Z`\"])")) {
            String plain = sentence.replaceAll("\\s+", " ");
            if (!HEADINGS.contains(plain)) {
                due.add(promise + ": " + plain);
            }
        }
    }

    private static String between(String text, String first, String last) {
        int start = text.indexOf(first) + first.length();
        return text.substring(start, text.indexOf(last, start));
    }
}
