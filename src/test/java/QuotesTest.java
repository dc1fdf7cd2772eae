import java.io.IOException;
import java.nio.file.DirectoryStream;
import java.nio.file.Files;
import java.nio.file.Path;
import java.util.regex.Matcher;
import java.util.regex.Pattern;

/** That the words by which tests of bounds are named stand in ../shared/DOC.md. */
public final class QuotesTest {
    private static final Pattern NAMED = Pattern.compile("Check\\.by\\(((?:\"(?:[^\"\\\\]|\\\\.)*\"[,\\s]*)+)\\);");
    private static final Pattern QUOTE = Pattern.compile("\"((?:[^\"\\\\]|\\\\.)*)\"");

    private QuotesTest() {
    }

    public static void main(String[] args) throws IOException {
        Path document = Path.of("../shared/DOC.md");
        Path tests = Path.of("src/test/java");
        if (Files.exists(document) && Files.exists(tests)) {
            String text = Files.readString(document).replaceAll("\\s+", " ");
            try (DirectoryStream<Path> files = Files.newDirectoryStream(tests, "*EdgesTest.java")) {
                for (Path file : files) {
                    quotesOf(file, text);
                }
            }
        } else {
            System.out.println("the document or the tests are not here: the quotes are not looked at");
        }
        Check.end();
    }

    private static void quotesOf(Path file, String document) throws IOException {
        Matcher named = NAMED.matcher(Files.readString(file));
        while (named.find()) {
            Matcher quote = QUOTE.matcher(named.group(1));
            while (quote.find()) {
                String words = quote.group(1).replace("\\\"", "\"");
                Check.holds(file.getFileName() + " quotes the document: " + words, document.contains(words));
            }
        }
    }
}
