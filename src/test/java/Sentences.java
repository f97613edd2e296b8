import java.io.IOException;
import java.nio.file.Files;
import java.nio.file.Path;
import java.util.List;
import java.util.regex.Matcher;
import java.util.regex.Pattern;

/**
 * The sentences of a section of the document, each with a test of its own. It fails, too, if a test names words that
 * do not stand in the section, or if there are words in the section that no test names.
 */
final class Sentences {
    private static final Path DOCUMENT = Path.of("..", "shared", "DOC.md");
    private static final Pattern WORDS = Pattern.compile("[^~]*[A-Za-z0-9][^~]*");

    private final String section, text;
    private final StringBuilder unnamed;
    private int tests, failed;

    interface Trial {
        void of(Due due);
    }

    Sentences(String section) {
        this(section, "", "");
    }

    /** The part of the section from some words on, up to others ("" for its beginning and its end). */
    Sentences(String section, String from, String to) {
        this.section = section;
        String whole = textOf(section);
        int end = to.isEmpty() ? whole.length() : whole.indexOf(to);
        text = whole.substring(whole.indexOf(from), end);
        unnamed = new StringBuilder(text);
    }

    /** Runs the test of a sentence; all that it asks is told with the section and the sentence. */
    void test(String sentence, Trial trial) {
        String title = section + " | " + sentence;
        Due due = new Due(title + ": ");
        try {
            trial.of(due);
        } catch (RuntimeException e) {
            due.is("the test itself", e, "no exception");
        }
        boolean holds = due.allAsDue() && name(sentence);
        tests++;
        failed += holds ? 0 : 1;
        System.out.println((holds ? "  holds  " : "  BROKEN ") + title);
    }

    void end() {
        Matcher left = WORDS.matcher(unnamed);
        while (left.find()) {
            failed++;
            System.out.println("no test names this of " + section + ": " + left.group());
        }
        System.out.println(tests + " sentences, " + failed + " failed");
        if (failed != 0 || tests == 0) {
            System.exit(1);
        }
    }

    private boolean name(String sentence) {
        int at = text.indexOf(sentence);
        if (at < 0) {
            System.out.println("this does not stand in " + section + ": " + sentence);
            return false;
        }
        unnamed.replace(at, at + sentence.length(), "~".repeat(sentence.length()));
        return true;
    }

    /** A section without its heading, its fences and the call's signature, in one line. */
    private static String textOf(String section) {
        StringBuilder found = new StringBuilder();
        boolean inside = false;
        for (String line : lines()) {
            if (line.startsWith("## ")) {
                inside = line.equals("## " + section);
            } else if (inside && !line.startsWith("```")) {
                found.append(' ').append(line);
            }
        }
        return found.toString().trim().replaceAll("\\s+", " ").replaceFirst("^`[^`]*`: ", "");
    }

    private static List<String> lines() {
        try {
            return Files.readAllLines(DOCUMENT);
        } catch (IOException e) {
            throw new IllegalStateException("the document is not at " + DOCUMENT, e);
        }
    }
}
