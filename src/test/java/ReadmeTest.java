import java.io.ByteArrayOutputStream;
import java.io.IOException;
import java.io.PrintStream;
import java.net.URL;
import java.net.URLClassLoader;
import java.nio.file.DirectoryStream;
import java.nio.file.Files;
import java.nio.file.Path;
import javax.tools.ToolProvider;

/** README.md tells how to use the class and how to run its tests, and its example does what stands there. */
public final class ReadmeTest {
    private static final Path README = Path.of("README.md");
    private static final Path TESTS = Path.of("src/test/java");

    private ReadmeTest() {
    }

    public static void main(String[] args) throws IOException, ReflectiveOperationException {
        String readme = Files.readString(README);
        Checks.due("what the example prints", printedBy(blockOf(readme, "java")), blockOf(readme, "text"));
        Checks.due("README names .ci/run", readme.contains("\n    .ci/run\n"), true);
        testsNamed(readme);
        callsNamed(readme);
        Checks.end();
    }

    /** The first block of a kind, without the lines that fence it. */
    private static String blockOf(String readme, String kind) {
        String open = "\n```" + kind + "\n";
        int start = readme.indexOf(open);
        int end = readme.indexOf("\n```\n", start + open.length());
        return start < 0 || end < 0 ? "" : readme.substring(start + open.length(), end + 1);
    }

    private static String printedBy(String lines) throws IOException, ReflectiveOperationException {
        Path folder = Files.createTempDirectory("readme");
        Path source = folder.resolve("Example.java");
        Path compiled = folder.resolve("Example.class");
        Files.writeString(source,
                "public final class Example { public static void main(String[] args) {\n" + lines + "} }\n");
        try {
            int exit = ToolProvider.getSystemJavaCompiler().run(null, null, null, "-d", folder.toString(),
                    "-cp", System.getProperty("java.class.path"), source.toString());
            Checks.due("exit code of javac with the example", exit, 0);
            return exit == 0 ? outputOfExample(folder) : "";
        } finally {
            Files.deleteIfExists(source);
            Files.deleteIfExists(compiled);
            Files.deleteIfExists(folder);
        }
    }

    private static String outputOfExample(Path folder) throws IOException, ReflectiveOperationException {
        ByteArrayOutputStream output = new ByteArrayOutputStream();
        PrintStream before = System.out;
        try (URLClassLoader loader = new URLClassLoader(new URL[] {folder.toUri().toURL()})) {
            System.setOut(new PrintStream(output, true));
            loader.loadClass("Example").getMethod("main", String[].class).invoke(null, (Object) new String[0]);
        } finally {
            System.setOut(before);
        }
        return output.toString().replace(System.lineSeparator(), "\n");
    }

    private static void testsNamed(String readme) throws IOException {
        try (DirectoryStream<Path> files = Files.newDirectoryStream(TESTS, "*.java")) {
            for (Path file : files) {
                String name = file.getFileName().toString().replace(".java", "");
                Checks.due("README names " + name, readme.contains("`" + name + "`"), true);
            }
        }
    }

    private static void callsNamed(String readme) {
        for (String name : Calls.NAMES) {
            Checks.due("README names " + name, readme.contains("`" + name + "("), true);
        }
    }
}
