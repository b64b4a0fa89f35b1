import java.io.ByteArrayOutputStream;
import java.io.IOException;
import java.io.PrintStream;
import java.lang.reflect.Field;
import java.lang.reflect.Method;
import java.lang.reflect.Modifier;
import java.net.URL;
import java.net.URLClassLoader;
import java.nio.file.Files;
import java.nio.file.Path;
import java.util.List;
import java.util.regex.Matcher;
import java.util.regex.Pattern;
import javax.tools.JavaCompiler;
import javax.tools.ToolProvider;

/** What README.md tells: its example is compiled and run, and every call and error is named. */
final class ReadmeTests {
    private static final Pattern CODE = Pattern.compile("```java\n(.*?)```.*?```text\n(.*?)```", Pattern.DOTALL);
    /** A row of a table that begins with a call. */
    private static final Pattern CALL = Pattern.compile("\\| `(\\w+)\\(([^)]*)\\)` \\|.*");

    private ReadmeTests() {
    }

    static void run(Path readme) throws IOException {
        String text = Files.readString(readme);
        example(text);
        calls(text.lines().toList());
        errors(text);
    }

    private static void example(String text) throws IOException {
        Matcher code = CODE.matcher(text);
        boolean found = code.find();
        Check.isTrue("README: there is an example, and what it prints", found);
        if (found) {
            List<String> printed = printedBy(code.group(1)).lines().toList();
            List<String> wanted = code.group(2).lines().toList();
            for (int i = 0; i < Math.max(printed.size(), wanted.size()); i++) {
                String got = i < printed.size() ? printed.get(i) : "nothing";
                String want = i < wanted.size() ? wanted.get(i) : "nothing";
                Check.isTrue("README: the example prints " + got + ", told is " + want, got.equals(want));
            }
        }
    }

    private static String printedBy(String code) throws IOException {
        JavaCompiler compiler = ToolProvider.getSystemJavaCompiler();
        if (compiler == null) {
            return "no compiler: this java is not of a JDK";
        }
        Path folder = Files.createTempDirectory("readme");
        Path source = folder.resolve("Example.java");
        try {
            Files.writeString(source, code);
            int error = compiler.run(null, null, null, "-Xlint:all", "-Werror", "-d", folder.toString(),
                    "-cp", System.getProperty("java.class.path"), source.toString());
            return error == 0 ? outputOfExample(folder) : "an example that does not compile";
        } finally {
            Files.deleteIfExists(source);
            Files.deleteIfExists(folder.resolve("Example.class"));
            Files.deleteIfExists(folder);
        }
    }

    private static String outputOfExample(Path folder) throws IOException {
        PrintStream before = System.out;
        ByteArrayOutputStream printed = new ByteArrayOutputStream();
        try (URLClassLoader loader = new URLClassLoader(new URL[] {folder.toUri().toURL()})) {
            System.setOut(new PrintStream(printed, true));
            Method main = loader.loadClass("Example").getMethod("main", String[].class);
            main.invoke(null, (Object) new String[0]);
        } catch (ReflectiveOperationException e) {
            return "an example that does not run: " + e;
        } finally {
            System.setOut(before);
        }
        return printed.toString();
    }

    /** Each call has a row of its own in the tables, with as many arguments as it takes. */
    private static void calls(List<String> lines) {
        int rows = 0;
        for (String line : lines) {
            rows += CALL.matcher(line).matches() ? 1 : 0;
        }
        int calls = 0;
        for (Method method : PledgeTips.class.getDeclaredMethods()) {
            if (Modifier.isPublic(method.getModifiers())) {
                calls++;
                Check.isTrue("README: a row of " + method, lines.stream().anyMatch(line -> isRowOf(line, method)));
            }
        }
        Check.due("README: rows of calls", rows, calls);
    }

    private static boolean isRowOf(String line, Method method) {
        Matcher row = CALL.matcher(line);
        if (!row.matches() || !row.group(1).equals(method.getName())) {
            return false;
        }
        int arguments = row.group(2).isEmpty() ? 0 : row.group(2).split(", ").length;
        return arguments == method.getParameterCount();
    }

    private static void errors(String text) {
        for (Field field : PledgeTips.class.getFields()) {
            try {
                String row = "| `" + field.getName() + "` | " + field.getInt(null) + " |";
                Check.isTrue("README: the row " + row, text.contains(row));
            } catch (IllegalAccessException e) {
                Check.isTrue("README: " + e, false);
            }
        }
    }
}
