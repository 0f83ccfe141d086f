import java.io.IOException;
import java.nio.file.Files;
import java.nio.file.Path;

/**
 * ../shared/DOC.md read from its first line to its last: the words of the sentences that are told here must be
 * the document's, one behind the other without a gap, and each sentence must have a check of its own.
 */
final class Document {
    private static final Path FILE = Path.of("../shared/DOC.md");

    private final Check check;
    private final boolean isThere;
    private final String text;
    private int at = 0;
    private String latest = "";
    private int callsAtLatest = 0;

    Document(Check check) throws IOException {
        this.check = check;
        isThere = Files.exists(FILE);
        text = isThere ? Files.readString(FILE).replaceAll("\\s+", " ").trim() : "";
        if (!isThere) {
            System.out.println(FILE + " is not there: the sentences are checked, their words are not compared");
        }
    }

    /** The next sentence of the document; the checks up to the next one are its own. */
    void says(String sentence) {
        closeLatest();
        read(sentence);
        latest = sentence;
        callsAtLatest = check.calls();
    }

    /** The next words of the document, of which no call can show whether they hold. */
    void passOver(String words) {
        closeLatest();
        read(words);
    }

    boolean isThere() {
        return isThere;
    }

    /** The document's words up to these, which are passed over too. */
    String readUpTo(String words) {
        int end = text.indexOf(words, at);
        check.due("'" + words + "' stands in the document", end >= 0 ? 1 : 0, 1);
        String between = text.substring(at, Math.max(at, end)).trim();
        at = Math.max(at, end);
        read(words);
        return between;
    }

    void end() {
        closeLatest();
        check.part("the document's end");
        check.due("characters without a test", text.length() - at, 0);
    }

    private void closeLatest() {
        if (!latest.isEmpty()) {
            check.due("checks of this sentence", check.calls() > callsAtLatest ? 1 : 0, 1);
            latest = "";
        }
    }

    private void read(String words) {
        check.part(words);
        if (!isThere) {
            return;
        }
        while (at < text.length() && text.charAt(at) == ' ') {
            at++;
        }
        boolean follows = text.startsWith(words, at);
        String there = text.substring(at, Math.min(text.length(), at + 60));
        check.due("these words follow; there stands '" + there + "'", follows ? 1 : 0, 1);
        int found = text.indexOf(words, at);
        at = found >= 0 ? found + words.length() : at;
    }
}
