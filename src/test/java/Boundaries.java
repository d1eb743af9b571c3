import java.io.IOException;
import java.nio.file.Files;
import java.nio.file.Path;
import java.util.LinkedHashMap;
import java.util.Map;
import java.util.Set;
import java.util.TreeSet;

/**
 * Runs the test of each sentence of the document that names a boundary case, by itself, and
 * tells those that fail with the heading and the words of the sentence.
 */
final class Boundaries {
    interface Test {
        void run(Due due);
    }

    private static final int PROMISES = 24;
    private static final long MOST_MILLISECONDS = 120000;

    private final Map<String, String> sections = new LinkedHashMap<>();
    private final Set<String> headings = new TreeSet<>();
    private int sentences;
    private int wrong;

    /** Without a document at this path the sentences are tested, but not looked up. */
    Boundaries(Path document) throws IOException {
        if (!Files.isRegularFile(document)) {
            System.out.println("  " + document + " is not there: sentences are not looked up");
            return;
        }
        String heading = "";
        for (String line : Files.readAllLines(document)) {
            if (line.startsWith("#")) {
                heading = line.replaceFirst("#+ ", "").replaceFirst("(Promise \\d+):.*", "$1");
            }
            sections.merge(heading, plain(line), (above, next) -> above + " " + next);
        }
    }

    /** The words of the sentence may leave out the marks of code and of lists. */
    void of(String heading, String words, Test test) {
        sentences++;
        headings.add(heading);
        Due due = new Due();
        boolean ends = runToTheEnd(test, due);
        boolean asks = due.asked() > 0;
        if (!sections.isEmpty()) {
            String section = sections.getOrDefault(heading, "");
            due.holds("that the document has these words", plain(section).contains(plain(words)));
        }
        if (!ends || !asks || due.wrong() != 0) {
            wrong++;
            System.out.println("  FAILED: " + heading + ": \"" + words + "\"");
        }
        if (!ends) {
            System.out.println("  a call does not end: the other sentences are not tested");
            System.exit(1);
        }
    }

    private static boolean runToTheEnd(Test test, Due due) {
        Thread runner = new Thread(() -> {
            try {
                test.run(due);
            } catch (RuntimeException | Error thrown) {
                due.holds("that nothing throws (" + thrown + ")", false);
            }
        });
        runner.setDaemon(true);
        runner.start();
        try {
            runner.join(MOST_MILLISECONDS);
        } catch (InterruptedException interrupted) {
            return false;
        }
        return !runner.isAlive();
    }

    void finish() {
        for (int promise = 1; promise <= PROMISES; promise++) {
            if (!headings.contains("Promise " + promise)) {
                wrong++;
                System.out.println("  no sentence of the promise " + promise + " is tested");
            }
        }
        System.out.println("  " + sentences + " sentences, " + wrong + " of them fail");
        if (wrong != 0) {
            System.exit(1);
        }
    }

    private static String plain(String text) {
        return text.replace("`", "").replaceAll("^- ", "").replaceAll("\\s+", " ").trim();
    }
}
