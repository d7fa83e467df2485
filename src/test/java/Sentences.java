import java.io.IOException;
import java.nio.file.Files;
import java.nio.file.Path;
import java.util.ArrayList;
import java.util.List;

/**
 * Tests that each stand for a sentence of ../shared/DOC.md, which they quote. A quote that the document
 * does not have is a failure, and so is a sentence of a section that no quote is from.
 */
final class Sentences {
    interface Test {
        void run();
    }

    private static final Path DOCUMENT = Path.of("../shared/DOC.md");

    final Check check = new Check();
    final Twins twins = new Twins(check);
    private final List<String> lines = new ArrayList<>();
    private String heading = "";
    private List<String> left = new ArrayList<>();
    private List<String> all = new ArrayList<>();

    Sentences() {
        try {
            lines.addAll(Files.readAllLines(DOCUMENT));
        } catch (IOException e) {
            throw new IllegalStateException("no document at " + DOCUMENT, e);
        }
    }

    /** Begins the section below the heading that begins with this; of the one before nothing may be left. */
    void section(String begin) {
        close();
        heading = begin;
        all = sentencesBelow(begin);
        left = new ArrayList<>(all);
        check.about(begin);
        check.dueTrue("the document has the section", !all.isEmpty());
    }

    /** The sentence with these words holds if the test finds nothing wrong. */
    void holds(String quote, Test test) {
        check.about(heading + " - " + quote);
        drop(quote);
        test.run();
    }

    /** The sentence with these words names no boundary case, or one that a test elsewhere is for. */
    void isTestedElsewhere(String quote) {
        check.about(heading + " - " + quote);
        drop(quote);
    }

    void end() {
        close();
        check.end();
    }

    private void close() {
        check.about(heading);
        for (String sentence : left) {
            check.due("the test of a sentence", "none for: " + sentence, "a quote");
        }
    }

    private void drop(String quote) {
        int found = 0;
        for (String sentence : all) {
            if (sentence.contains(quote)) {
                found++;
                left.remove(sentence);
            }
        }
        check.due("sentences with the quote", found, 1);
    }

    private List<String> sentencesBelow(String begin) {
        List<String> sentences = new ArrayList<>();
        boolean inside = false;
        for (String line : lines) {
            if (line.startsWith("#")) {
                inside = line.replaceFirst("^#+ ", "").startsWith(begin);
            } else if (inside && !line.isBlank()) {
                sentences.addAll(List.of(line.split("(?<=[.)]) (?=[A-Z(])|; (?=\\d+: )")));
            }
        }
        return sentences;
    }
}
