import java.io.IOException;
import java.nio.file.Files;
import java.nio.file.Path;
import java.util.regex.Matcher;
import java.util.regex.Pattern;

/**
 * The document's own words. A test quotes them a sentence at a time and asks what it promises; in the end no word may be
 * left that nobody has quoted, so that no sentence is without a test of its own.
 */
final class Doc {
    private static final Path DOCUMENT = Path.of("../shared/DOC.md");

    private final Check check;
    private final String text;
    private final boolean[] isQuoted;
    private String latest = "";
    private int askedByThen = 0;

    Doc(Check check) throws IOException {
        this.check = check;
        String all = Files.readString(DOCUMENT);
        int from = Math.max(0, all.indexOf("An object is used for"));
        int to = Math.max(from, all.indexOf("## Not promised"));
        // What is no sentence: the face (FaceTest compares it), headings, fences, lists of calls, signatures.
        text = all.substring(from, to)
            .replaceAll("(?s)```java.*?```", " ")
            .replaceAll("(?m)^## Promise (\\d+): .*$", "\u00a7$1\u00a7")
            .replaceAll("(?m)^(##|```|Ahead of the calls).*$", " ")
            .replaceAll("==== \\d\\.", " ")
            .replaceAll("(?m)^`[^`]*`:", " ")
            .replaceAll("\\s+", " ");
        isQuoted = new boolean[text.length()];
    }

    /** Begins the test of a sentence that stands just once in the document. */
    void says(String sentence) {
        begin(sentence, 0, text.length());
    }

    /** Begins the test of a sentence that stands just once in a promise. */
    void promises(int number, String sentence) {
        String mark = "\u00a7" + number + "\u00a7";
        int from = text.indexOf(mark);
        int next = text.indexOf("\u00a7", from + mark.length());
        begin(sentence, Math.max(from, 0), next < 0 ? text.length() : next);
    }

    private void begin(String sentence, int from, int to) {
        close();
        int place = text.indexOf(sentence, from);
        boolean isThere = place >= 0 && place + sentence.length() <= to;
        int other = text.indexOf(sentence, place + 1);
        boolean isOnce = isThere && (other < 0 || other + sentence.length() > to);
        check.due("the document says just once: " + sentence, isOnce, true);
        for (int i = 0; isThere && i < sentence.length(); i++) {
            isQuoted[place + i] = true;
        }
        check.about(sentence);
        latest = sentence;
        askedByThen = check.asked();
    }

    private void close() {
        check.about("");
        if (!latest.isEmpty()) {
            check.due("something is asked behind: " + latest, check.asked() > askedByThen, true);
        }
    }

    /** Every word must have been quoted. */
    void end() {
        close();
        StringBuilder left = new StringBuilder();
        for (int i = 0; i < text.length(); i++) {
            left.append(isQuoted[i] ? '\n' : text.charAt(i));
        }
        Matcher words = Pattern.compile("[^\n]*[A-Za-z0-9][^\n]*").matcher(left.toString().replaceAll("\u00a7\\d+\u00a7", " "));
        while (words.find()) {
            check.due("no test quotes: " + words.group().trim(), 1, 0);
        }
    }
}
