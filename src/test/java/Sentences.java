import java.io.IOException;
import java.nio.file.Files;
import java.nio.file.Path;
import java.util.ArrayList;
import java.util.LinkedHashMap;
import java.util.List;
import java.util.Map;

/**
 * Runs the test of each sentence of the document by itself, and tells those that fail with the
 * heading and the words of the sentence, and all words of the document that have no test.
 */
final class Sentences {
    interface Test {
        void run(Due due);
    }

    private static final int PROMISES = 24;
    private static final long MOST_MILLISECONDS = 120000;

    private final Map<String, String> sections = new LinkedHashMap<>();
    private final Map<String, List<String>> told = new LinkedHashMap<>();
    private int sentences;
    private int wrong;

    /** Without a document at this path the sentences are tested, but not looked up. */
    Sentences(Path document) throws IOException {
        if (!Files.isRegularFile(document)) {
            System.out.println("  " + document + " is not there: sentences are not looked up");
            return;
        }
        String heading = "";
        for (String line : Files.readAllLines(document)) {
            if (line.startsWith("#")) {
                heading = line.replaceFirst("#+ ", "").replaceFirst("(Promise \\d+):.*", "$1");
                continue;
            }
            sections.merge(heading, plain(line), (above, next) -> plain(above + " " + next));
        }
    }

    /** The words of the sentence may leave out the marks of code and of lists. */
    void of(String heading, String words, Test test) {
        sentences++;
        Due due = new Due();
        boolean ends = runToTheEnd(test, due);
        boolean asks = due.asked() > 0;
        note(due, heading, words);
        if (!ends || !asks || due.wrong() != 0) {
            wrong++;
            System.out.println("  FAILED: " + heading + ": \"" + words + "\"");
        }
        if (!ends) {
            System.out.println("  a call does not end: the other sentences are not tested");
            System.exit(1);
        }
    }

    /** Words that leave an answer free, so that no test could fail by them. */
    void free(String heading, String words) {
        Due due = new Due();
        note(due, heading, words);
        wrong += due.wrong();
    }

    private void note(Due due, String heading, String words) {
        told.computeIfAbsent(heading, none -> new ArrayList<>()).add(plain(words));
        if (!sections.isEmpty()) {
            String section = sections.getOrDefault(heading, "");
            due.holds("that the document says \"" + words + "\"", section.contains(plain(words)));
        }
    }

    private static boolean runToTheEnd(Test test, Due due) {
        Thread runner = new Thread(() -> {
            try {
                test.run(due);
            } catch (RuntimeException | Error thrown) {
                due.holds("that nothing throws (" + thrown + ")", false);
            }
        });
        runner.setDaemon(true);
        runner.start();
        try {
            runner.join(MOST_MILLISECONDS);
        } catch (InterruptedException interrupted) {
            return false;
        }
        return !runner.isAlive();
    }

    void finish() {
        for (int promise = 1; promise <= PROMISES; promise++) {
            if (!told.containsKey("Promise " + promise)) {
                wrong++;
                System.out.println("  no sentence of the promise " + promise + " is tested");
            }
        }
        for (Map.Entry<String, String> section : sections.entrySet()) {
            tellWhatHasNoTest(section.getKey(), section.getValue());
        }
        System.out.println("  " + sentences + " sentences, " + wrong + " of them fail");
        if (wrong != 0) {
            System.exit(1);
        }
    }

    /** Each sentence stands for one place of the section; signs between them are no words. */
    private void tellWhatHasNoTest(String heading, String section) {
        StringBuilder left = new StringBuilder(section);
        for (String words : told.getOrDefault(heading, List.of())) {
            int at = section.indexOf(words);
            for (int i = at; at >= 0 && i < at + words.length(); i++) {
                left.setCharAt(i, '|');
            }
        }
        for (String words : left.toString().split("\\|+")) {
            if (words.matches(".*[\\w{}].*")) {
                wrong++;
                System.out.println("  NO TEST: " + heading + ": \"" + words.trim() + "\"");
            }
        }
    }

    private static String plain(String text) {
        return text.replace("`", "").replaceAll("^- ", "").replaceAll("\\s+", " ").trim();
    }
}
