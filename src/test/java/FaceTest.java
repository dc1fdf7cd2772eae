import java.io.IOException;
import java.lang.reflect.Constructor;
import java.lang.reflect.Field;
import java.lang.reflect.Method;
import java.lang.reflect.Modifier;
import java.nio.file.Files;
import java.nio.file.Path;
import java.util.ArrayList;
import java.util.Arrays;
import java.util.List;
import java.util.TreeSet;
import java.util.regex.Matcher;
import java.util.regex.Pattern;

/** The public face, that no argument makes a call throw, and rules of ../shared/LANGUAGE.md that can be seen. */
public final class FaceTest {
    private static final String[] FACE = {
        "int letters(long)", "int blank()", "int fault()", "int clock()", "int told(int, int)",
        "int season(int, int, int)", "int faulty(int, int, int, int)", "int as(int, int)",
        "int work(int, int, int)", "int workAs(int, int)", "int head(int)", "int drops(int, int, int, int)",
        "int error(int, int, int, int)", "int at(int, int, int, int, int)", "int even(int, int, int, int)",
        "int mean(int, int, int, int)", "int shows(int, int, int, int)", "int worst(int, int)",
        "int better(int, int)", "int mark(int, int, int)", "int mended(int, int, int, int, int)",
        "int log(int, int)", "int agrees(int, int, int)", "int which(int, int)",
        "int sought(int, int, int, int, int)", "int lost(int, int, int, int)",
        "int span(int, int, int, int, int)", "int record(int, int, int, int, int)", "int image()",
        "int restore()", "int count(int)", "long digest()"};
    private static final int[] EXTREMES = {Integer.MIN_VALUE, Integer.MIN_VALUE + 1, -102, -2, -1, 0, 1, 2, 3, 4, 5, 8, 9,
        10, 11, 12, 13, 51, 95, 96, 97, Integer.MAX_VALUE - 1, Integer.MAX_VALUE};
    /** What ../shared/LANGUAGE.md rules out, as patterns: a lambda is an arrow on a line that is no case of a switch. */
    private static final String[] FORBIDDEN = {"(?m)^(?!.*\\b(case|default)\\b).*->", "::", "\\bpackage\\b", "\\bprotected\\b",
        "\\bfinally\\b", "\\bsynchronized\\b", "\\bassert\\b", "\\bhashCode\\b", "Exact\\(", "\\bgetMessage\\b",
        "\\bSystem\\.(?!arraycopy\\b)", "\\bString\\.", "\\bThread\\b", "\\bRandom\\b", "\\bstatic \\{",
        "\\bcatch \\((final )?(Exception|Throwable|Error|\\w*OutOfBoundsException|NullPointerException|ArithmeticException"
            + "|ClassCastException|NegativeArraySizeException|ArrayStoreException)\\b"};
    private static final List<String> IMPORTS = List.of("java.util.Arrays", "java.util.ArrayList", "java.util.List",
        "java.util.Iterator", "java.util.NoSuchElementException");

    private FaceTest() {
    }

    public static void main(String[] args) throws Exception {
        document();
        methods();
        constants();
        members();
        nothingThrows();
        source();
        Check.end();
    }

    private static String faceOf(Method m) {
        List<String> kinds = new ArrayList<>();
        for (Class<?> kind : m.getParameterTypes()) {
            kinds.add(kind.getName());
        }
        return m.getReturnType().getName() + " " + m.getName() + "(" + String.join(", ", kinds) + ")";
    }

    /** That the face above is the document's. */
    private static void document() throws IOException {
        Path file = Path.of("../shared/DOC.md");
        if (!Files.exists(file)) {
            System.out.println("the document is not here: its face is not looked at");
            return;
        }
        String text = Files.readString(file);
        String face = text.substring(text.indexOf("```java"), text.indexOf("## Terms"));
        Check.holds("a final class", face.contains("public final class DroppingBalls {"));
        Check.holds("its constants", face.contains("public static final int NONE = " + DroppingBalls.NONE + ", UNKNOWN = "
            + DroppingBalls.UNKNOWN + ", OUTSIDE = " + DroppingBalls.OUTSIDE + ", STATE = " + DroppingBalls.STATE
            + ", FULL = " + DroppingBalls.FULL + ";"));
        Check.holds("its constructor", face.contains("public DroppingBalls();"));
        Matcher told = Pattern.compile("public (int|long) (\\w+)\\(([^)]*)\\);").matcher(face);
        TreeSet<String> calls = new TreeSet<>();
        while (told.find()) {
            calls.add(told.group(1) + " " + told.group(2) + "(" + told.group(3).replaceAll(" \\w+(,|$)", "$1") + ")");
        }
        Check.holds("its calls: " + calls, calls.equals(new TreeSet<>(Arrays.asList(FACE))));
    }

    private static void methods() {
        TreeSet<String> told = new TreeSet<>();
        TreeSet<String> publicNames = new TreeSet<>();
        for (Method m : DroppingBalls.class.getDeclaredMethods()) {
            if (Modifier.isPublic(m.getModifiers())) {
                told.add(faceOf(m));
                publicNames.add(m.getName());
                Check.holds(m.getName() + " is no static one", !Modifier.isStatic(m.getModifiers()));
            }
        }
        Check.holds("the face: " + told, told.equals(new TreeSet<>(Arrays.asList(FACE))));
        for (Method m : DroppingBalls.class.getDeclaredMethods()) {
            if (!Modifier.isPublic(m.getModifiers())) {
                Check.holds(m.getName() + " is private", Modifier.isPrivate(m.getModifiers()));
                Check.holds(m.getName() + " bears no public name", !publicNames.contains(m.getName()));
            }
        }
        for (Class<?> inside : DroppingBalls.class.getDeclaredClasses()) {
            Check.holds(inside + " is static", Modifier.isStatic(inside.getModifiers()));
            Check.holds(inside + " is not public", !Modifier.isPublic(inside.getModifiers()));
            for (Method m : inside.getDeclaredMethods()) {
                boolean isPrivate = Modifier.isPrivate(m.getModifiers());
                Check.holds(m + " bears no public name", !isPrivate || !publicNames.contains(m.getName()));
                Check.holds(m + " has seven parameters at most", m.getParameterCount() <= 7);
            }
        }
    }

    private static void constants() {
        Check.due("NONE", DroppingBalls.NONE, -1);
        Check.due("UNKNOWN", DroppingBalls.UNKNOWN, -101);
        Check.due("OUTSIDE", DroppingBalls.OUTSIDE, -102);
        Check.due("STATE", DroppingBalls.STATE, -103);
        Check.due("FULL", DroppingBalls.FULL, -104);
    }

    private static void members() {
        int visible = Modifier.PUBLIC | Modifier.STATIC | Modifier.FINAL;
        int open = 0;
        for (Field f : DroppingBalls.class.getDeclaredFields()) {
            boolean isPrivate = Modifier.isPrivate(f.getModifiers());
            open += isPrivate ? 0 : 1;
            Check.holds(f + " is private or a constant", isPrivate || f.getModifiers() == visible);
            Check.holds(f + " is no open state", !Modifier.isStatic(f.getModifiers()) || Modifier.isFinal(f.getModifiers()));
        }
        Check.due("public constants", open, 5);
        Constructor<?>[] made = DroppingBalls.class.getDeclaredConstructors();
        Check.due("constructors", made.length, 1);
        Check.holds("a public one without arguments", Modifier.isPublic(made[0].getModifiers()) && made[0].getParameterCount() == 0);
        Check.holds("a final class", Modifier.isFinal(DroppingBalls.class.getModifiers()));
    }

    /** Each call with each mix of extremes in two of its arguments, on an empty and on a full object. */
    private static void nothingThrows() throws Exception {
        for (Method m : DroppingBalls.class.getDeclaredMethods()) {
            if (Modifier.isPublic(m.getModifiers()) && m.getParameterCount() > 0) {
                for (int a : EXTREMES) {
                    for (int b : EXTREMES) {
                        callWith(m, new DroppingBalls(), a, b);
                        callWith(m, full(), a, b);
                    }
                }
            }
        }
        Check.holds("no call threw", true);
    }

    private static void callWith(Method m, DroppingBalls x, int a, int b) throws Exception {
        Class<?>[] kinds = m.getParameterTypes();
        for (int place = 0; place < kinds.length; place++) {
            Object[] args = new Object[kinds.length];
            for (int i = 0; i < args.length; i++) {
                int v = i == place ? a : i == place + 1 ? b : 0;
                if (kinds[i] == long.class) {
                    args[i] = (long) a << 32 | b;
                } else {
                    args[i] = v;
                }
            }
            m.invoke(x, args);
        }
    }

    private static DroppingBalls full() {
        DroppingBalls x = new DroppingBalls();
        for (int i = 0; i < 4; i++) {
            Check.clock(x, "30x60h40>30x60h40>30x60h40=1x99;s60;m1,2,3,4,5,6,7,8,9,10,11,12");
        }
        for (int i = 0; i < 8; i++) {
            x.faulty(1 + i % 4, i % 3, 20, 0);
        }
        for (int i = 0; i < 10; i++) {
            x.work(3, 1, i - 1);
        }
        x.head(9);
        // So that the searches among these calls end early.
        x.log(0, 95);
        return x;
    }

    private static void source() throws IOException {
        Path file = Path.of("src/main/java/DroppingBalls.java");
        if (!Files.exists(file)) {
            System.out.println("the source is not here: its rules are not looked at");
            return;
        }
        String code = Files.readString(file).replaceAll("(?s)/\\*.*?\\*/", "").replaceAll("//[^\n]*", "");
        for (String sign : FORBIDDEN) {
            Check.holds("the source has no " + sign, !Pattern.compile(sign).matcher(code).find());
        }
        Matcher imports = Pattern.compile("(?m)^import (.*);").matcher(code);
        while (imports.find()) {
            Check.holds("import " + imports.group(1), IMPORTS.contains(imports.group(1)));
        }
        Matcher method = Pattern.compile("(?ms)^( {4}| {8})(?! )[^\n=;]*\\) \\{\n(.*?)\n\\1\\}$").matcher(code);
        int methods = 0;
        while (method.find()) {
            methods++;
            Check.holds("a method is short: " + method.group().split("\n")[0].trim(), method.group().split("\n").length <= 60);
        }
        Check.holds("methods were looked at: " + methods, methods > FACE.length);
    }
}
