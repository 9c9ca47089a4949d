import java.io.ByteArrayOutputStream;
import java.io.IOException;
import java.io.PrintStream;
import java.net.URL;
import java.net.URLClassLoader;
import java.nio.file.Files;
import java.nio.file.Path;
import java.util.Arrays;
import java.util.List;
import java.util.regex.Matcher;
import java.util.regex.Pattern;
import java.util.stream.Stream;
import javax.tools.JavaCompiler;
import javax.tools.ToolProvider;

/** README.md's example compiles, and prints what is said behind it; README.md names each test there is. */
public final class ReadmeTest {
    private static final Path README = Path.of("README.md");
    private static final Path TESTS = Path.of("src/test/java");
    private static final Checks CHECKS = new Checks("ReadmeTest");

    public static void main(String[] args) throws IOException, ReflectiveOperationException {
        String readme = Files.readString(README);
        Matcher example = Pattern.compile("(?s)```java\n(.*?)```").matcher(readme);
        CHECKS.due("there is an example", true, example.find());
        String program = example.group(1);
        List<String> want = Pattern.compile("// prints ([^:\n]+)").matcher(program).results().map(r -> r.group(1)).toList();
        CHECKS.due("the example prints", true, want.size() > 5);
        JavaCompiler compiler = ToolProvider.getSystemJavaCompiler();
        if (compiler == null) {
            System.out.println("this java has no compiler in it, so the example is not run");
        } else {
            CHECKS.due("what the example prints", want.toString(), printedBy(program, compiler).toString());
        }
        testsAreNamed(readme);
        CHECKS.end();
    }

    private static List<String> printedBy(String program, JavaCompiler compiler)
            throws IOException, ReflectiveOperationException {
        Path room = Files.createTempDirectory("readme");
        Path source = room.resolve("Example.java");
        Files.writeString(source, program);
        String known = System.getProperty("java.class.path");
        int failed = compiler.run(null, null, null, "-d", room.toString(), "-cp", known, source.toString());
        CHECKS.due("the example compiles", 0, failed);
        PrintStream out = System.out;
        ByteArrayOutputStream printed = new ByteArrayOutputStream();
        System.setOut(new PrintStream(printed, true));
        try (URLClassLoader loader = new URLClassLoader(new URL[] {room.toUri().toURL()})) {
            loader.loadClass("Example").getMethod("main", String[].class).invoke(null, (Object) new String[0]);
        } finally {
            System.setOut(out);
            remove(room);
        }
        return Arrays.asList(printed.toString().split("\\R"));
    }

    private static void remove(Path room) throws IOException {
        try (Stream<Path> files = Files.list(room)) {
            for (Path file : files.toList()) {
                Files.delete(file);
            }
        }
        Files.delete(room);
    }

    private static void testsAreNamed(String readme) throws IOException {
        try (Stream<Path> files = Files.list(TESTS)) {
            for (Path file : files.toList()) {
                String name = file.getFileName().toString().replace(".java", "");
                if (name.endsWith("Test")) {
                    CHECKS.due("README.md names " + name, true, readme.contains(name));
                }
            }
        }
    }
}
