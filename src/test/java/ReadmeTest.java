import java.io.ByteArrayOutputStream;
import java.io.IOException;
import java.io.PrintStream;
import java.net.URL;
import java.net.URLClassLoader;
import java.nio.charset.StandardCharsets;
import java.nio.file.Files;
import java.nio.file.Path;
import java.util.ArrayList;
import java.util.List;
import java.util.TreeSet;
import java.util.regex.Matcher;
import java.util.regex.Pattern;
import java.util.stream.Stream;
import javax.tools.ToolProvider;

/** README.md: its example prints what stands behind its lines, and its list names each test. */
public final class ReadmeTest {
    private static final Path README = Path.of("README.md");
    private static final Path TESTS = Path.of("src/test/java");
    private static final Path OUT = Path.of("build/readme");
    private static final Pattern EXAMPLE = Pattern.compile("```java\n(.*?)```", Pattern.DOTALL);
    private static final Pattern LISTED = Pattern.compile("^- `(\\w+Test)`:", Pattern.MULTILINE);

    public static void main(String[] args) throws Exception {
        String text = Files.readString(README, StandardCharsets.UTF_8);
        Matcher example = EXAMPLE.matcher(text);
        Check.is("an example", example.find(), true);
        String lines = example.group(1);
        Check.is("what the example prints", printed(lines), told(lines));
        Check.is("another example", example.find(), false);
        Check.is("the listed tests", listed(text), tests());
        Check.end();
    }

    /** What stands behind the lines that print. */
    private static List<String> told(String lines) {
        List<String> all = new ArrayList<>();
        for (String line : lines.split("\n")) {
            if (line.contains("println(")) {
                String[] parts = line.split(" // ", 2);
                all.add(parts.length == 2 ? parts[1] : "nothing is told behind" + line);
            }
        }
        return all;
    }

    private static List<String> printed(String lines) throws Exception {
        Files.createDirectories(OUT);
        Path source = OUT.resolve("Example.java");
        Files.writeString(source, lines);
        int end = ToolProvider.getSystemJavaCompiler().run(null, System.out, System.out,
            "-cp", System.getProperty("java.class.path"), "-d", OUT.toString(), source.toString());
        Check.is("the end of javac", end, 0);
        PrintStream before = System.out;
        ByteArrayOutputStream bytes = new ByteArrayOutputStream();
        try (URLClassLoader loader = new URLClassLoader(new URL[] {OUT.toUri().toURL()})) {
            System.setOut(new PrintStream(bytes, true, StandardCharsets.UTF_8));
            loader.loadClass("Example").getMethod("main", String[].class).invoke(null, (Object) new String[0]);
        } finally {
            System.setOut(before);
        }
        return bytes.toString(StandardCharsets.UTF_8).lines().toList();
    }

    private static TreeSet<String> listed(String text) {
        TreeSet<String> all = new TreeSet<>();
        Matcher matcher = LISTED.matcher(text);
        while (matcher.find()) {
            all.add(matcher.group(1));
        }
        return all;
    }

    private static TreeSet<String> tests() throws IOException {
        TreeSet<String> all = new TreeSet<>();
        try (Stream<Path> files = Files.list(TESTS)) {
            files.map(file -> file.getFileName().toString()).filter(name -> name.endsWith("Test.java"))
                .forEach(name -> all.add(name.replace(".java", "")));
        }
        return all;
    }
}
