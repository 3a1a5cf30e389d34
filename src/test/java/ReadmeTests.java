import java.io.ByteArrayOutputStream;
import java.io.PrintStream;
import java.net.URL;
import java.net.URLClassLoader;
import java.nio.file.Files;
import java.nio.file.Path;
import java.util.ArrayList;
import java.util.List;
import java.util.Set;
import java.util.TreeSet;
import java.util.regex.Matcher;
import java.util.regex.Pattern;
import javax.tools.ToolProvider;

/** README.md keeps its word: its example prints what stands behind its lines, and it names each call and each test. */
public final class ReadmeTests {
    private static final Path README = Path.of("README.md");

    public static void main(String[] args) throws Exception {
        String text = Files.readString(README);
        example(text);
        calls(text);
        tests(text);
        Check.end("ReadmeTests");
    }

    private static void example(String text) throws Exception {
        List<String> blocks = found(text, "(?s)```java\n(.*?)```");
        Check.is("examples", blocks.size(), 1);
        Path folder = Files.createTempDirectory("readme");
        Path file = folder.resolve("Example.java");
        Files.writeString(file, blocks.get(0));
        int status = ToolProvider.getSystemJavaCompiler().run(null, null, null, "-cp",
                System.getProperty("java.class.path"), "-d", folder.toString(), file.toString());
        Check.is("compiling the example", status, 0);
        if (status == 0) {
            Check.is("what the example prints", printed(folder), found(blocks.get(0), "println.*// (-?[\\d.]+)"));
        }
        Files.deleteIfExists(folder.resolve("Example.class"));
        Files.delete(file);
        Files.delete(folder);
    }

    private static List<String> printed(Path folder) throws Exception {
        PrintStream console = System.out;
        ByteArrayOutputStream bytes = new ByteArrayOutputStream();
        try (URLClassLoader loader = new URLClassLoader(new URL[] {folder.toUri().toURL()})) {
            System.setOut(new PrintStream(bytes));
            loader.loadClass("Example").getMethod("main", String[].class).invoke(null, (Object) new String[0]);
        } finally {
            System.out.flush();
            System.setOut(console);
        }
        return List.of(bytes.toString().split("\\R"));
    }

    private static void calls(String text) throws Exception {
        Set<String> named = new TreeSet<>(found(text, "`(\\w+)\\("));
        Set<String> due = new TreeSet<>();
        for (java.lang.reflect.Method method : SsaRepair.class.getDeclaredMethods()) {
            if (java.lang.reflect.Modifier.isPublic(method.getModifiers())) {
                due.add(method.getName());
            }
        }
        Check.is("calls that it names", named, due);
    }

    private static void tests(String text) throws Exception {
        List<String> due = new ArrayList<>();
        try (var files = Files.list(Path.of("src/test/java"))) {
            files.map(file -> file.getFileName().toString()).filter(name -> name.endsWith("Tests.java"))
                    .forEach(name -> due.add(name.replace(".java", "")));
        }
        Check.is("tests that it names", new TreeSet<>(found(text, "(?m)^\\| (\\w+Tests) \\|")), new TreeSet<>(due));
    }

    private static List<String> found(String text, String pattern) {
        List<String> found = new ArrayList<>();
        Matcher matcher = Pattern.compile(pattern).matcher(text);
        while (matcher.find()) {
            found.add(matcher.group(1));
        }
        return found;
    }
}
