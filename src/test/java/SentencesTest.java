import java.io.IOException;
import java.nio.file.Files;
import java.nio.file.Path;
import java.util.ArrayList;
import java.util.List;
import java.util.regex.Matcher;
import java.util.regex.Pattern;
import java.util.stream.Stream;

/** Every sentence that a test quotes by says() stands in the document, and none of its Terms and promises is left out. */
final class SentencesTest {
    private static final Path DOC = Path.of("../shared/DOC.md");
    private static final Path TESTS = Path.of("src/test/java");
    private static final Pattern LITERAL = Pattern.compile("\"((?:[^\"\\\\]|\\\\.)*)\"");
    private static final Pattern SAYS =
            Pattern.compile("\\.says\\((?:(\\d+), )?((?:[\\s+]*\"(?:[^\"\\\\]|\\\\.)*\")+)\\s*\\)");
    private static final int PROMISES = 35;

    /** Of no promise: 0. */
    private record Quote(int promise, String text) { }

    public static void main(String[] args) throws IOException {
        Check check = new Check();
        List<Quote> quotes = quotes();
        String doc = Files.readString(DOC);
        List<String> passages = passages(doc);
        check.due("promises", passages.size() - 1, PROMISES);
        for (int promise = 0; promise < passages.size(); promise++) {
            cover(check, promise, passages.get(promise), quotes);
        }
        for (Quote quote : quotes) {
            String where = quote.promise < passages.size() ? passages.get(quote.promise) : "";
            check.due("in the document: " + quote, plain(where).contains(quote.text) ? 1 : 0, 1);
        }
        check.end();
    }

    private static List<Quote> quotes() throws IOException {
        List<Quote> quotes = new ArrayList<>();
        List<Path> files;
        try (Stream<Path> listed = Files.list(TESTS)) {
            files = listed.sorted().toList();
        }
        for (Path file : files) {
            Matcher says = SAYS.matcher(Files.readString(file));
            while (says.find()) {
                StringBuilder text = new StringBuilder();
                Matcher literal = LITERAL.matcher(says.group(2));
                while (literal.find()) {
                    text.append(literal.group(1));
                }
                quotes.add(new Quote(says.group(1) == null ? 0 : Integer.parseInt(says.group(1)), text.toString()));
            }
        }
        return quotes;
    }

    private static String plain(String text) {
        return text.replaceAll("\\s+", " ");
    }

    /** The sentence on calls and the Terms, then each promise, without heads, signatures and what the interface says. */
    private static List<String> passages(String doc) {
        List<String> passages = new ArrayList<>();
        String calls = between(doc, "An object is used", ";", "## The public face");
        String terms = between(doc, "ROWS 0 .. 7", "Ahead of the calls", "## Promise 1:");
        String opening = between(doc, "Numbers go from 0 on.", "=====", "## Promise 1:");
        passages.add(calls + "\n" + opening + terms.replaceAll("(?m)^```.*$|^=+ \\d", ""));
        Matcher promise = Pattern.compile("## Promise \\d+:.*\\s+`[^`]*`:(.*)").matcher(doc);
        while (promise.find()) {
            passages.add(promise.group(1));
        }
        return passages;
    }

    /** From one text to the next of another, which stands ahead of a bound. */
    private static String between(String doc, String from, String to, String bound) {
        int start = doc.indexOf(from);
        int end = doc.indexOf(to, Math.max(start, 0));
        return start < 0 || end < 0 || end > doc.indexOf(bound) ? "" : doc.substring(start, end);
    }

    private static void cover(Check check, int promise, String passage, List<Quote> quotes) {
        String text = plain(passage);
        StringBuilder left = new StringBuilder(text);
        for (Quote quote : quotes) {
            int at = quote.promise == promise ? text.indexOf(quote.text) : -1;
            for (int k = at; at >= 0 && k < at + quote.text.length(); k++) {
                left.setCharAt(k, ' ');
            }
        }
        String rest = plain(left.toString()).trim();
        check.due("promise " + promise + ", without a test: " + rest, rest.isEmpty() && !text.isBlank() ? 0 : 1, 0);
    }
}
