import java.io.IOException;
import java.nio.file.Files;
import java.nio.file.Path;
import java.util.ArrayList;
import java.util.List;

/**
 * The document, and which of its words the tests have quoted. A test says the sentence that it looks at, so that a
 * sentence without a test, or a test whose sentence is not the document's (any more), shows.
 */
final class Quotes {
    private static final Path DOC = Path.of("../shared/DOC.md");

    private final Check check;
    private final String text;
    private final boolean[] quoted;
    private final List<int[]> parts = new ArrayList<>();
    private int from;
    private int to;

    Quotes(Check check) throws IOException {
        this.check = check;
        String lines = Files.exists(DOC) ? Files.readString(DOC) : "";
        text = lines.replace("```text", "").replace("```", "").replaceAll("\\s+", " ");
        quoted = new boolean[text.length()];
    }

    /** From here on, sentences are those of this part: from the words start on, up to the words end. */
    void part(String start, String end) {
        check.about(start);
        from = Math.max(0, text.indexOf(start));
        to = text.indexOf(end, from + start.length());
        to = to < 0 ? text.length() : to;
        if (isThere()) {
            parts.add(new int[] {from, to});
            check.holds("the document has this part", text.startsWith(start, from));
        }
    }

    /** Where the document is not at hand, the tests run all the same, but their sentences are not looked up. */
    private boolean isThere() {
        return !text.isEmpty();
    }

    /** From here on, sentences are those of this promise, without its heading and its signature. */
    void promise(int n) {
        part("## Promise " + n + ":", " ## ");
        int body = text.indexOf("`: ", from);
        if (isThere()) {
            check.holds("the promise has a body", body >= from && body < to);
            from = body + 3;
            parts.set(parts.size() - 1, new int[] {from, to});
        }
    }

    /** What is asked from here on would be answered otherwise, if this sentence were broken. */
    void says(String sentence) {
        check.about(sentence);
        int at = text.indexOf(sentence, from);
        if (isThere()) {
            check.holds("this is a sentence of the document, in this part", at >= 0 && at + sentence.length() <= to);
        }
        for (int i = at; at >= 0 && i < at + sentence.length(); i++) {
            quoted[i] = true;
        }
    }

    /** All words of the parts that no test has quoted. */
    List<String> unquoted() {
        List<String> all = new ArrayList<>();
        for (int[] part : parts) {
            StringBuilder words = new StringBuilder();
            for (int i = part[0]; i < part[1]; i++) {
                words.append(quoted[i] ? '\n' : text.charAt(i));
            }
            for (String some : words.toString().split("\n+")) {
                if (some.matches(".*[A-Za-z0-9].*")) {
                    all.add(some);
                }
            }
        }
        return all;
    }
}
