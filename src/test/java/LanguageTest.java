import java.nio.file.Files;
import java.nio.file.Path;
import java.util.regex.Matcher;
import java.util.regex.Pattern;

/** Words and signs that LANGUAGE.md leaves no room for; its argument is the path of the class. */
public final class LanguageTest {
    private static final String[] RULED_OUT = {"^\\s*package\\b", "^\\s*import\\b", "->", "::",
        "\\bfinally\\b", "\\bsynchronized\\b", "\\bassert\\b", "\\bvar\\b", "\\bthrow\\b",
        "\\bcatch\\b", "\\btry\\b", "\\w+Exact\\(", "\\bFloat\\b", "\\bDouble\\b", "\\bLong\\.",
        "\\bSystem\\.(?!arraycopy)", "\\bObject\\b", "\\bequals\\b", "\\bhashCode\\b",
        "\\btoString\\b", "@", "\\bwhile \\(true\\)", "for \\([^;]*;\\s*;", "\\bprotected\\b"};

    private static final Due due = new Due();

    public static void main(String[] args) throws Exception {
        String path = args.length > 0 ? args[0] : "src/main/java/FieldQuotas.java";
        String source = Files.readString(Path.of(path));
        for (String pattern : RULED_OUT) {
            Matcher found = Pattern.compile(pattern, Pattern.MULTILINE).matcher(source);
            due.holds("no " + pattern, !found.find());
        }
        boolean isPlain = true;
        for (int i = 0; i < source.length(); i++) {
            isPlain &= source.charAt(i) < 127;
        }
        due.holds("signs below 127", isPlain);
        methodsAreShort(source);
        due.finish();
    }

    /** A method begins and ends on lines with the same indent. */
    private static void methodsAreShort(String source) {
        String[] lines = source.split("\n");
        for (int i = 0; i < lines.length; i++) {
            boolean begins = lines[i].matches(" {4}(?: {4})?[\\w\\[\\] ]+\\(.*\\) \\{")
                    || lines[i].matches(" {4}(?: {4})?public [\\w ]+\\(.*\\) \\{");
            if (begins) {
                String end = lines[i].replaceAll("\\S.*", "") + "}";
                int length = 1;
                while (i + length < lines.length && !lines[i + length].equals(end)) {
                    length++;
                }
                due.holds(lines[i].trim() + " is short", length < 60);
            }
            due.holds("line " + (i + 1) + " has at most 100 signs", lines[i].length() <= 100);
        }
    }
}
