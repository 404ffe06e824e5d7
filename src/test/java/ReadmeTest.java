import java.io.IOException;
import java.io.Writer;
import java.lang.reflect.Field;
import java.lang.reflect.InvocationTargetException;
import java.lang.reflect.Method;
import java.lang.reflect.Modifier;
import java.net.URI;
import java.net.URL;
import java.net.URLClassLoader;
import java.nio.file.Files;
import java.nio.file.Path;
import java.util.ArrayList;
import java.util.Comparator;
import java.util.List;
import java.util.regex.Matcher;
import java.util.regex.Pattern;
import java.util.stream.Stream;
import javax.tools.JavaFileObject;
import javax.tools.SimpleJavaFileObject;
import javax.tools.ToolProvider;

/**
 * What README.md shows of calls and answers is what the class answers: its Java is compiled as it stands, each call's
 * answer held against the one behind it. And it names all of the face, and every file of the tests.
 */
final class ReadmeTest {
    private static final Path README = Path.of("README.md");
    private static final Path TESTS = Path.of("src/test/java");
    private static final String START = "VeilMint mint = new VeilMint();";
    private static final Pattern CALL = Pattern.compile("(int (\\w+) = )?(mint\\.\\w+\\(.*\\)); +// (.*)");
    private static final Pattern ANSWER = Pattern.compile("(-?\\d+|true|false|[A-Z_]+|throws \\w+)(: .*)?");

    private final List<String> lines;
    private final StringBuilder helpers = new StringBuilder();
    private final StringBuilder runs = new StringBuilder();
    private int shown = 0;

    private ReadmeTest(List<String> lines) {
        this.lines = lines;
    }

    public static void main(String[] args) throws IOException, ReflectiveOperationException {
        ReadmeTest test = new ReadmeTest(Files.readAllLines(README));
        test.gather();
        List<Object[]> rows = new ArrayList<>();
        test.makeCalls(rows);
        for (Object[] row : rows) {
            Pair.check("README.md, line " + row[0] + ": due is " + row[1] + ", answered " + row[2],
                row[1].equals(row[2]));
        }
        Pair.check("all " + test.shown + " calls were made", test.shown > 0 && rows.size() == test.shown);
        test.namesTheFace();
        test.namesTheTests();
        Pair.finish("ReadmeTest");
    }

    /** Sorts the lines of Java: methods to the helpers, all else to the runs, of which each has its own names. */
    private void gather() {
        boolean java = false;
        boolean helper = false;
        boolean open = false;
        for (int i = 0; i < lines.size(); i++) {
            String line = lines.get(i);
            if (line.startsWith("```")) {
                java = line.equals("```java");
                helper = java && i + 1 < lines.size() && lines.get(i + 1).startsWith("static ");
            } else if (helper) {
                helpers.append(line).append('\n');
            } else if (java) {
                if (line.equals(START)) {
                    runs.append(open ? "}\n{\n" : "{\n");
                    open = true;
                }
                runs.append(translated(i + 1, line)).append('\n');
            }
        }
        runs.append(open ? "}\n" : "");
    }

    /** A line with a call becomes one that tells its answer, and the one that is due. */
    private String translated(int number, String line) {
        Matcher call = CALL.matcher(line);
        if (!call.matches()) {
            Pair.check("README.md, line " + number + " tells an answer: " + line, !line.contains("mint."));
            return line;
        }
        Matcher answer = ANSWER.matcher(call.group(4));
        if (!answer.matches()) {
            Pair.check("README.md, line " + number + " tells an answer: " + line, false);
            return line;
        }
        shown++;
        String due = answer.group(1);
        String row = "rows.add(new Object[] {" + number + ", ";
        if (due.startsWith("throws ")) {
            return "try {" + row + "\"" + due + "\", " + call.group(3) + "});} catch (RuntimeException e) {"
                + row + "\"" + due + "\", \"throws \" + e.getClass().getSimpleName()});}";
        }
        String want = Character.isUpperCase(due.charAt(0)) ? "VeilMint." + due : due;
        if (call.group(1) != null) {
            return call.group(1) + call.group(3) + ";" + row + want + ", " + call.group(2) + "});";
        }
        return row + want + ", " + call.group(3) + "});";
    }

    private void makeCalls(List<Object[]> rows) throws IOException, ReflectiveOperationException {
        String source = "public final class Readme {\n" + helpers
            + "public static void run(java.util.List<Object[]> rows) {\n" + runs + "}\n}\n";
        Path built = Files.createTempDirectory("readme");
        try {
            if (!compile(source, built)) {
                return;
            }
            try (URLClassLoader loader = new URLClassLoader(new URL[] {built.toUri().toURL()})) {
                loader.loadClass("Readme").getMethod("run", List.class).invoke(null, rows);
            } catch (InvocationTargetException e) {
                Pair.check("README.md came to " + e.getCause(), false);
            }
        } finally {
            removeAll(built);
        }
    }

    private static boolean compile(String source, Path built) {
        URI name = URI.create("string:///Readme.java");
        JavaFileObject file = new SimpleJavaFileObject(name, JavaFileObject.Kind.SOURCE) {
            @Override
            public CharSequence getCharContent(boolean ignoreErrors) {
                return source;
            }
        };
        List<String> options = List.of("-d", built.toString(), "-cp", System.getProperty("java.class.path"));
        boolean compiled = ToolProvider.getSystemJavaCompiler()
            .getTask((Writer) null, null, null, options, null, List.of(file)).call();
        Pair.check("the Java of README.md can be compiled", compiled);
        return compiled;
    }

    private static void removeAll(Path top) throws IOException {
        try (Stream<Path> all = Files.walk(top)) {
            for (Path one : all.sorted(Comparator.reverseOrder()).toList()) {
                Files.delete(one);
            }
        }
    }

    /** A row of a table for each method, with as many names as it has parameters, and for each constant its value. */
    private void namesTheFace() throws IllegalAccessException {
        for (Method one : VeilMint.class.getDeclaredMethods()) {
            if (Modifier.isPublic(one.getModifiers())) {
                String names = "\\w+, ".repeat(one.getParameterCount()).replaceAll(", $", "");
                String row = "\\| `" + one.getName() + "\\(" + names + "\\)` \\|.*";
                Pair.check("README.md has a row for " + one, hasRow(row));
            }
        }
        for (Field one : VeilMint.class.getFields()) {
            String row = "\\| `" + one.getName() + "` \\| " + one.getInt(null) + " \\|.*";
            Pair.check("README.md has a row for " + one.getName(), hasRow(row));
        }
    }

    private boolean hasRow(String row) {
        return lines.stream().filter(line -> line.matches(row)).count() == 1;
    }

    private void namesTheTests() throws IOException {
        try (Stream<Path> all = Files.list(TESTS)) {
            for (Path one : all.toList()) {
                String name = one.getFileName().toString().replace(".java", "");
                Pair.check("README.md names " + name, lines.stream().anyMatch(line -> line.contains("`" + name + "`")));
            }
        }
    }
}
