import java.io.IOException;
import java.nio.file.Files;
import java.nio.file.Path;
import java.util.ArrayList;
import java.util.BitSet;
import java.util.LinkedHashMap;
import java.util.List;
import java.util.Map;
import java.util.regex.Matcher;
import java.util.regex.Pattern;

/** The document, head by head and with single blanks, and which of its words have been cited by a test. */
final class Document {
    /** What a clause has that names a boundary: a range, an error, an edge, or that a call is kept or undone. */
    private static final Pattern BOUNDARY = Pattern.compile(
        "\\b(BAD|NO|FULL|NONE|if|none|no|nothing|without|least|greatest|fewest|fewer|first|last|most|only|perhaps|same"
        + "|different|skipped|modulo|overflow|circle|undone|decrease|left|empty|Empties|needed|allowed|oldest|several"
        + "|\\d+ to \\d+|otherwise|vain|bit)\\b");
    private static final Pattern CLAUSE = Pattern.compile(".+?([.;:] |$)");

    private final Map<String, String> texts = new LinkedHashMap<>();
    private final Map<String, BitSet> cited = new LinkedHashMap<>();

    Document(Path file) throws IOException {
        for (String part : Files.readString(file).split("(?m)^## ")) {
            int end = part.indexOf('\n');
            String head = part.substring(0, end).replaceAll(":.*", "");
            // the examples have a test of their own
            String text = part.substring(end).replaceAll("(?s)\nExamples: .*?\n\n", "\n").replaceAll("\\s+", " ").trim();
            if (head.equals("What it is") || head.equals("Description") || head.startsWith("Promise ")) {
                texts.put(head, text);
                cited.put(head, new BitSet());
            }
        }
    }

    int heads() {
        return texts.size();
    }

    /** Answers whether the words stand under the head, in one place alone. */
    boolean cites(String head, String words) {
        String text = texts.getOrDefault(head, "");
        int place = text.indexOf(words);
        if (place < 0 || place != text.lastIndexOf(words)) {
            return false;
        }
        cited.get(head).set(place, place + words.length());
        return true;
    }

    /** The clauses that name a boundary and of which no word has been cited. */
    List<String> uncited() {
        List<String> found = new ArrayList<>();
        texts.forEach((head, text) -> {
            Matcher clause = CLAUSE.matcher(text);
            while (clause.find()) {
                boolean isCited = cited.get(head).get(clause.start(), clause.end()).cardinality() > 0;
                if (!isCited && BOUNDARY.matcher(clause.group()).find()) {
                    found.add(head + ": " + clause.group().trim());
                }
            }
        });
        return found;
    }
}
