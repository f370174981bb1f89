import java.io.ByteArrayOutputStream;
import java.io.IOException;
import java.io.PrintStream;
import java.lang.reflect.Method;
import java.lang.reflect.Modifier;
import java.net.URL;
import java.net.URLClassLoader;
import java.nio.charset.StandardCharsets;
import java.nio.file.Files;
import java.nio.file.Path;
import java.util.HashSet;
import java.util.List;
import java.util.Set;
import java.util.regex.Matcher;
import java.util.regex.Pattern;
import javax.tools.ToolProvider;

/** What README.md tells of the class holds: its example, its table of calls, its list of tests. */
public final class ReadmeTest {
    private static final Pattern CALL = Pattern.compile("^\\| `(\\w+)\\((.*?)\\)` +\\|", Pattern.MULTILINE);

    public static void main(String[] args) throws IOException, ReflectiveOperationException {
        String readme = Files.readString(Path.of("README.md"));
        example(block(readme, "java"), block(readme, "text"));
        calls(readme);
        tests(readme);
        Due.end();
    }

    private static void rule(String what, boolean holds) {
        Due.is(what, holds ? 1 : 0, 1);
    }

    /** The first block of a kind, empty if there is none. */
    private static String block(String readme, String kind) {
        String open = "```" + kind + "\n";
        int from = readme.indexOf(open);
        int to = from < 0 ? -1 : readme.indexOf("```", from + open.length());
        rule("README has a block of " + kind, to >= 0);
        return to < 0 ? "" : readme.substring(from + open.length(), to);
    }

    private static void example(String source, String printed) throws IOException, ReflectiveOperationException {
        Path folder = Files.createTempDirectory("readme");
        Path file = folder.resolve("Example.java");
        Path made = folder.resolve("Example.class");
        Files.writeString(file, source);
        String classPath = System.getProperty("java.class.path");
        int faults = ToolProvider.getSystemJavaCompiler().run(null, null, null, "-cp", classPath, "-d", folder.toString(), file.toString());
        Due.is("faults of the example", faults, 0);
        if (faults == 0) {
            String got = whatPrints(folder);
            rule("the example prints what README tells, not\n" + got, got.equals(printed));
        }
        for (Path old : List.of(file, made, folder)) Files.deleteIfExists(old);
    }

    private static String whatPrints(Path folder) throws IOException, ReflectiveOperationException {
        ByteArrayOutputStream bytes = new ByteArrayOutputStream();
        PrintStream usual = System.out;
        try (URLClassLoader loader = new URLClassLoader(new URL[] {folder.toUri().toURL()});
                PrintStream caught = new PrintStream(bytes, true, StandardCharsets.UTF_8)) {
            Method main = loader.loadClass("Example").getMethod("main", String[].class);
            System.setOut(caught);
            main.invoke(null, (Object) new String[0]);
        } finally {
            System.setOut(usual);
        }
        return bytes.toString(StandardCharsets.UTF_8).replace(System.lineSeparator(), "\n");
    }

    private static void calls(String readme) {
        Set<String> told = new HashSet<>();
        Matcher row = CALL.matcher(readme);
        while (row.find()) rule("told once: " + row.group(1), told.add(shape(row.group(1), row.group(2))));
        Set<String> due = new HashSet<>();
        for (Method m : SleptMatters.class.getDeclaredMethods()) {
            if (Modifier.isPublic(m.getModifiers())) due.add(m.getName() + " of " + m.getParameterCount());
        }
        rule("the table has every call and no other: " + told, told.equals(due));
    }

    private static String shape(String name, String parameters) {
        return name + " of " + (parameters.isEmpty() ? 0 : parameters.split(",").length);
    }

    private static void tests(String readme) throws IOException {
        try (var files = Files.newDirectoryStream(Path.of("src/test/java"), "*Test.java")) {
            for (Path file : files) {
                String name = file.getFileName().toString().replace(".java", "");
                rule("README tells of " + name, readme.contains("`" + name + "`"));
            }
        }
    }
}
