import java.io.ByteArrayOutputStream;
import java.io.IOException;
import java.io.PrintStream;
import java.net.URL;
import java.net.URLClassLoader;
import java.nio.charset.StandardCharsets;
import java.nio.file.Files;
import java.nio.file.Path;
import java.util.Comparator;
import java.util.List;
import java.util.stream.Stream;
import javax.tools.ToolProvider;

/** The example of README.md prints what README.md says, and each call of the face is told there. */
final class ReadmeTest {
    private static final Checks checks = new Checks();

    public static void main(String[] args) throws IOException {
        String readme = Files.readString(Path.of("README.md"));
        Path work = Files.createTempDirectory("readme");
        try {
            exampleHolds(blockOf(readme, "java"), blockOf(readme, "text"), work);
        } finally {
            remove(work);
        }
        for (var method : Resetline.class.getDeclaredMethods()) {
            if (java.lang.reflect.Modifier.isPublic(method.getModifiers())) {
                checks.holds("README.md tells " + method.getName(), readme.contains("`" + method.getName() + "("));
            }
        }
        checks.close();
    }

    private static String blockOf(String readme, String kind) {
        String mark = "\n```" + kind + "\n";
        int first = readme.indexOf(mark);
        int last = first < 0 ? -1 : readme.indexOf("\n```\n", first + mark.length());
        checks.holds("README.md has a block of " + kind, last >= 0);
        return last < 0 ? "" : readme.substring(first + mark.length(), last + 1);
    }

    private static void exampleHolds(String code, String due, Path work) throws IOException {
        Path source = work.resolve("Example.java");
        Files.writeString(source, code);
        int failed = ToolProvider.getSystemJavaCompiler().run(null, null, null, "--release", "17",
                "-cp", System.getProperty("java.class.path"), "-d", work.toString(), source.toString());
        checks.same("errors of the example", failed, 0);
        if (failed == 0) {
            String got = printedBy(work);
            checks.holds("the example prints\n" + got + "which", got.equals(due));
        }
    }

    private static String printedBy(Path work) throws IOException {
        ByteArrayOutputStream printed = new ByteArrayOutputStream();
        PrintStream before = System.out;
        try (URLClassLoader loader = new URLClassLoader(new URL[] {work.toUri().toURL()})) {
            System.setOut(new PrintStream(printed, true, StandardCharsets.UTF_8));
            loader.loadClass("Example").getMethod("main", String[].class).invoke(null, (Object) new String[0]);
        } catch (ReflectiveOperationException e) {
            checks.fail("the example ended with " + e);
        } finally {
            System.setOut(before);
        }
        return printed.toString(StandardCharsets.UTF_8).replace(System.lineSeparator(), "\n");
    }

    private static void remove(Path work) throws IOException {
        List<Path> all;
        try (Stream<Path> found = Files.walk(work)) {
            all = found.sorted(Comparator.reverseOrder()).toList();
        }
        for (Path path : all) {
            Files.delete(path);
        }
    }
}
