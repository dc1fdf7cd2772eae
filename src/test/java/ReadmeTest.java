import java.io.IOException;
import java.lang.reflect.Method;
import java.lang.reflect.Modifier;
import java.net.URL;
import java.net.URLClassLoader;
import java.nio.file.DirectoryStream;
import java.nio.file.Files;
import java.nio.file.Path;
import java.util.regex.Matcher;
import java.util.regex.Pattern;
import javax.tools.JavaCompiler;
import javax.tools.ToolProvider;

/** That README.md's example compiles and answers as it says, and that each call and each test is named there. */
public final class ReadmeTest {
    private static final Pattern EXAMPLE = Pattern.compile("(?s)```java\\n(.*?)```");
    /** A line of it that says what it answers: what is asked goes into a variable. */
    private static final Pattern ANSWER = Pattern.compile("(?m)^int (\\w+) = x\\..*// (-?\\d+),.*$|^int (\\w+) = x\\..*// (-?\\d+)$");

    private ReadmeTest() {
    }

    public static void main(String[] args) throws Exception {
        Path readme = Path.of("README.md");
        if (Files.exists(readme)) {
            String text = Files.readString(readme);
            example(text);
            calls(text);
            tests(text);
        } else {
            System.out.println("README.md is not here: it is not looked at");
        }
        Check.end();
    }

    /** Called by the example, of each answer. */
    public static void due(String name, long got, long want) {
        Check.due("README.md: " + name, got, want);
    }

    private static void example(String text) throws Exception {
        Matcher example = EXAMPLE.matcher(text);
        Check.holds("README.md has an example", example.find());
        String lines = example.group(1);
        Matcher answer = ANSWER.matcher(lines);
        StringBuilder checks = new StringBuilder();
        int answers = 0;
        while (answer.find()) {
            boolean isTold = answer.group(1) != null;
            String name = answer.group(isTold ? 1 : 3);
            checks.append("ReadmeTest.due(\"").append(name).append("\", ").append(name).append(", ")
                    .append(answer.group(isTold ? 2 : 4)).append(");\n");
            answers++;
        }
        Check.due("lines that say what they answer", answers, lines.split("= x\\.", -1).length - 1);
        run("public class ReadmeExample {\npublic static void main(String[] args) {\n" + lines + checks + "}\n}\n");
    }

    private static void run(String source) throws Exception {
        JavaCompiler compiler = ToolProvider.getSystemJavaCompiler();
        Path place = Files.createTempDirectory("readme");
        Path file = place.resolve("ReadmeExample.java");
        Files.writeString(file, source);
        int failed = compiler.run(null, null, null, "-cp", System.getProperty("java.class.path"), "-d", place.toString(), file.toString());
        Check.due("the example compiles", failed, 0);
        if (failed == 0) {
            try (URLClassLoader loader = new URLClassLoader(new URL[] {place.toUri().toURL()})) {
                loader.loadClass("ReadmeExample").getMethod("main", String[].class).invoke(null, (Object) new String[0]);
            }
        }
        Files.deleteIfExists(place.resolve("ReadmeExample.class"));
        Files.deleteIfExists(file);
        Files.deleteIfExists(place);
    }

    private static void calls(String text) {
        for (Method m : DroppingBalls.class.getDeclaredMethods()) {
            boolean isOpen = Modifier.isPublic(m.getModifiers());
            Check.holds("README.md names the call " + m.getName(), !isOpen || text.contains("`" + m.getName() + "`"));
        }
    }

    private static void tests(String text) throws IOException {
        try (DirectoryStream<Path> files = Files.newDirectoryStream(Path.of("src/test/java"), "*Test.java")) {
            for (Path file : files) {
                String name = file.getFileName().toString().replace(".java", "");
                Check.holds("README.md names the test " + name, text.contains("`" + name + "`"));
            }
        }
        Check.holds("README.md says what runs them all", text.contains(".ci/run"));
    }
}
