import java.io.IOException;
import java.nio.file.Files;
import java.nio.file.Path;
import java.util.HashSet;
import java.util.Set;
import java.util.function.Consumer;

/**
 * One section of the document, with a test for each of its sentences (or each case that a sentence names). A test is
 * named by the words of the sentence, and these words have to stand in that section, so that one leads to the other.
 */
final class Section {
    private static final Path DOCUMENT = Path.of("..", "shared", "DOC.md");
    private final String heading;
    private final String text;
    private final Set<String> named = new HashSet<>();
    private int calls = 0;
    private int failed = 0;

    Section(String heading) {
        this.heading = heading;
        this.text = textUnder(heading);
    }

    /** Null when there is no document: then the tests are run all the same. */
    private static String textUnder(String heading) {
        try {
            String all = Files.readString(DOCUMENT);
            int from = all.indexOf("\n## " + heading + "\n");
            int to = from < 0 ? from : all.indexOf("\n## ", from + 1);
            String text = from < 0 ? "" : to < 0 ? all.substring(from) : all.substring(from, to);
            return text.replaceAll("\\s+", " ");
        } catch (IOException e) {
            System.out.println("no document at " + DOCUMENT + ": the words of the sentences are not looked up");
            return null;
        }
    }

    /** Two hyphens in the words stand for what is left out between two cases of one sentence. */
    private boolean isInTheText(String words) {
        if (text == null) {
            return true;
        }
        int at = 0;
        for (String part : words.split(" -- ")) {
            int found = text.indexOf(part, at);
            if (found < 0) {
                return false;
            }
            at = found + part.length();
        }
        return true;
    }

    void sentence(String words, Consumer<Check> test) {
        Check check = new Check(heading + " | " + words + " | ");
        check.yes("the words stand in the document", isInTheText(words));
        check.yes("the words name one test alone", named.add(words));
        int before = check.calls();
        try {
            test.accept(check);
        } catch (RuntimeException e) {
            check.no("a call threw " + e, true);
        }
        check.yes("the test looks at an answer", check.calls() > before);
        calls += check.calls();
        failed += check.wrong() == 0 ? 0 : 1;
    }

    void end() {
        System.out.println(heading + ": " + named.size() + " sentences, " + calls + " answers, "
            + failed + " sentences do not hold");
        if (failed != 0 || named.isEmpty()) {
            System.exit(1);
        }
    }
}
