import java.io.IOException;
import java.nio.file.Files;
import java.nio.file.Path;
import java.util.Set;
import java.util.regex.Matcher;
import java.util.regex.Pattern;

/** The rules of LANGUAGE.md that can be seen in the words of the source. Its argument is the project's folder. */
public final class LanguageTest {
    private static final Due due = new Due();
    private static final String[] BANNED = {
        "throw", "throws", "try", "catch", "finally", "synchronized", "assert", "package", "protected", "native",
        "volatile", "transient", "var", "Object", "Thread", "Exception", "Error", "hashCode", "yield", "Exact",
        "Random", "HashMap", "Map", "Set", "Optional", "Stream", "Scanner"};
    private static final Set<String> LIBRARY = Set.of(
        "Arrays.fill", "Arrays.copyOf", "Arrays.copyOfRange", "System.arraycopy", "Math.abs", "Math.min", "Math.max",
        "Integer.bitCount", "Integer.MAX_VALUE");

    public static void main(String[] args) throws IOException {
        String root = args.length > 0 ? args[0] : ".";
        String source = Files.readString(Path.of(root, "src/main/java/GestureBook.java"));
        String code = source.replaceAll("(?s)/\\*.*?\\*/", " ").replaceAll("//[^\n]*", " ");
        words(code);
        due.holds("plain signs", source.chars().allMatch(c -> c == '\n' || c >= 32 && c < 127));
        library(code);
        int classes = count(code, "\\bclass\\b");
        due.holds("classes: " + classes, classes <= 12);
        methods(code);
        due.end();
    }

    private static void words(String code) {
        for (String word : BANNED) {
            due.is("uses of " + word, count(code, "\\b" + word + "\\b"), 0);
        }
        due.is("lambdas", count(code, "->"), 0);
        due.is("method references", count(code, "::"), 0);
        due.is("annotations", count(code, "@"), 0);
        due.is("imports", count(code, "\\bimport\\b"), 1);
        due.is("import of Arrays", count(code, "import java\\.util\\.Arrays;"), 1);
    }

    private static void library(String code) {
        Matcher use = Pattern.compile("\\b(Arrays|System|Math|Integer|Long|String|StringBuilder)\\.(\\w+)").matcher(code);
        while (use.find()) {
            due.holds(use.group() + " is allowed", LIBRARY.contains(use.group()));
        }
    }

    private static void methods(String code) {
        Matcher head = Pattern.compile("(?m)^(    |        )(?:\\w+(?:\\[\\])? )+(\\w+)\\(([^)]*)\\) \\{$").matcher(code);
        int found = 0;
        while (head.find()) {
            found++;
            int end = code.indexOf("\n" + head.group(1) + "}", head.end());
            int lines = count(code.substring(head.end(), end), "\n");
            due.holds(head.group(2) + " has " + lines + " lines", lines <= 60);
            due.holds(head.group(2) + " has few parameters", head.group(3).split(",").length <= 7);
        }
        due.holds("methods found: " + found, found > 60);
    }

    private static int count(String code, String pattern) {
        return (int) Pattern.compile(pattern).matcher(code).results().count();
    }
}
