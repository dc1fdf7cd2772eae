import java.io.IOException;
import java.nio.file.DirectoryStream;
import java.nio.file.Files;
import java.nio.file.Path;
import java.util.ArrayList;
import java.util.List;
import java.util.regex.Matcher;
import java.util.regex.Pattern;

/**
 * That the words by which tests are named stand in ../shared/DOC.md, and that each sentence of its terms and promises,
 * from the first one to the last, names a test.
 */
public final class QuotesTest {
    private static final Pattern NAMED = Pattern.compile("Check\\.by\\(((?:\"(?:[^\"\\\\]|\\\\.)*\"[,\\s]*)+)\\);");
    private static final Pattern QUOTE = Pattern.compile("\"((?:[^\"\\\\]|\\\\.)*)\"");
    /** What is no sentence: headings, fences, which call a promise is of, which part of the face a line is of. */
    private static final Pattern[] FRAMES = {Pattern.compile("(?m)^#.*$"), Pattern.compile("(?m)^```.*$"),
        Pattern.compile("(?m)^======== \\d "), Pattern.compile("(?m)^`[^`]*`: "),
        Pattern.compile("(?m)^Ahead of the calls .* the interface says: ---- (?!a run).*$"),
        Pattern.compile("(?m)^Ahead of the calls .* the interface says: ---- (?=a run)")};

    private QuotesTest() {
    }

    public static void main(String[] args) throws IOException {
        Path document = Path.of("../shared/DOC.md");
        Path tests = Path.of("src/test/java");
        if (Files.exists(document) && Files.exists(tests)) {
            String text = Files.readString(document);
            List<String> quotes = new ArrayList<>();
            try (DirectoryStream<Path> files = Files.newDirectoryStream(tests, "*Test.java")) {
                for (Path file : files) {
                    quotesOf(file, joined(text), quotes);
                }
            }
            Check.holds("words that are quoted: " + quotes.size(), quotes.size() > 100);
            eachSentenceIsQuoted(sentencesOf(text), quotes);
        } else {
            System.out.println("the document or the tests are not here: the quotes are not looked at");
        }
        Check.end();
    }

    private static String joined(String text) {
        return text.replaceAll("\\s+", " ").trim();
    }

    private static void quotesOf(Path file, String document, List<String> quotes) throws IOException {
        Matcher named = NAMED.matcher(Files.readString(file));
        while (named.find()) {
            Matcher quote = QUOTE.matcher(named.group(1));
            while (quote.find()) {
                String words = quote.group(1).replace("\\\"", "\"");
                Check.holds(file.getFileName() + " quotes the document: " + words, document.contains(words));
                quotes.add(words);
            }
        }
    }

    /** The terms and the promises without what frames them. */
    private static String sentencesOf(String text) {
        int first = text.indexOf("## Terms");
        int last = text.indexOf("## Not promised");
        Check.holds("the document has terms and promises", first >= 0 && last > first);
        String rest = first >= 0 && last > first ? text.substring(first, last) : text;
        for (Pattern frame : FRAMES) {
            rest = frame.matcher(rest).replaceAll("");
        }
        return joined(rest);
    }

    private static void eachSentenceIsQuoted(String sentences, List<String> quotes) {
        boolean[] isQuoted = new boolean[sentences.length()];
        for (String words : quotes) {
            for (int at = sentences.indexOf(words); at >= 0; at = sentences.indexOf(words, at + 1)) {
                java.util.Arrays.fill(isQuoted, at, at + words.length(), true);
            }
        }
        StringBuilder untold = new StringBuilder();
        for (int i = 0; i <= isQuoted.length; i++) {
            if (i < isQuoted.length && !isQuoted[i]) {
                untold.append(sentences.charAt(i));
            } else if (untold.length() > 0) {
                boolean isSentence = untold.chars().anyMatch(Character::isLetterOrDigit);
                Check.holds("a test is named by: " + untold, !isSentence);
                untold.setLength(0);
            }
        }
    }
}
