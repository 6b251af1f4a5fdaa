import java.io.File;
import java.io.IOException;
import java.lang.reflect.Method;
import java.lang.reflect.Modifier;
import java.nio.file.Files;
import java.nio.file.Path;
import java.util.regex.Matcher;
import java.util.regex.Pattern;

/** README.md: what its calls answer, and that it names every method and every test. Its argument is the project's folder. */
public final class ReadmeTest {
    private static final int NONE = GestureBook.NONE;
    private static final Due due = new Due();

    private final String page;
    private int place = 0;
    private int shown = 0;

    private ReadmeTest(String page) {
        this.page = page;
    }

    public static void main(String[] args) throws IOException {
        String root = args.length > 0 ? args[0] : ".";
        ReadmeTest test = new ReadmeTest(Files.readString(Path.of(root, "README.md")));
        test.calls(new GestureBook());
        test.namesMethods();
        test.namesTests(new File(root, "src/test/java"));
        due.end();
    }

    private void calls(GestureBook book) {
        shows("GestureBook book = new GestureBook();");
        int house = book.sign(1, 2, 3, 4, 1);
        int there = book.sign(6, 2, 7, 4, 2);
        int gives = book.sign(1, 2, 3, 5, 3);
        shows("int house = book.sign(1, 2, 3, 4, 1);", house);
        shows("int there = book.sign(6, 2, 7, 4, 2);", there);
        shows("int gives = book.sign(1, 2, 3, 5, 3);", gives);
        shows("book.apart(house, there, 4);", book.apart(house, there, 4));
        shows("book.look(1, 2, GestureBook.NONE, 4);", book.look(1, 2, NONE, 4));
        shows("book.twins(GestureBook.NONE);", book.twins(NONE));
        shows("book.word(house, GestureBook.NONE, 5);", book.word(house, NONE, 5));
        shows("book.word(there, GestureBook.NONE, 5);", book.word(there, NONE, 5));
        shows("book.word(gives, 5, 0);", book.word(gives, 5, 0));
        shows("book.wordOf(1, 5);", book.wordOf(1, 5));
        shows("book.wordOf(2, 4);", book.wordOf(2, 4));
        shows("book.all(5);", book.all(5));
        shows("book.settles();", book.settles());
        shows("book.back();", book.back());
        texts(book);
        due.is("answers that the page tells", Pattern.compile("// = ").matcher(page).results().count(), shown);
    }

    private void texts(GestureBook book) {
        shows("for (char c : \"w 0 1; w 9;\".toCharArray()) { book.type(c); }");
        for (char c : "w 0 1; w 9;".toCharArray()) {
            book.type(c);
        }
        shows("book.reads();", book.reads());
        shows("book.sign(1, 2, 3, 4, 0);", book.sign(1, 2, 3, 4, 0));
        shows("book.told(1);", book.told(1));
    }

    /** The page has this line, behind the one that was looked for before it. */
    private void shows(String line) {
        int found = page.indexOf("\n" + line, place);
        due.holds("the page has, in its order: " + line, found >= 0);
        place = Math.max(place, found + 1);
    }

    /** The page has this call, and behind it what the call has answered. */
    private void shows(String call, int answer) {
        shows(call);
        shown++;
        Matcher told = Pattern.compile(Pattern.quote(call) + " +// = (-?\\d+);").matcher(page.substring(place));
        boolean isTold = told.lookingAt();
        due.holds("the page tells what " + call + " answers", isTold);
        if (isTold) {
            due.is(call, answer, Integer.parseInt(told.group(1)));
        }
    }

    private void namesMethods() {
        for (Method method : GestureBook.class.getDeclaredMethods()) {
            if (Modifier.isPublic(method.getModifiers())) {
                due.holds("the page names " + method.getName(), page.contains("`" + method.getName() + "`"));
            }
        }
    }

    private void namesTests(File folder) {
        String[] files = folder.list((where, name) -> name.endsWith("Test.java"));
        due.holds("tests are found", files != null && files.length > 0);
        for (String file : files == null ? new String[0] : files) {
            String name = file.replace(".java", "");
            due.holds("the page names " + name, page.contains("`" + name + "`"));
        }
        due.holds("the page says how to run them", page.contains("\n    .ci/run\n"));
    }
}
