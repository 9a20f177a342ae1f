import java.io.ByteArrayOutputStream;
import java.io.IOException;
import java.io.PrintStream;
import java.lang.reflect.InvocationTargetException;
import java.net.URL;
import java.net.URLClassLoader;
import java.nio.charset.StandardCharsets;
import java.nio.file.Files;
import java.nio.file.Path;
import javax.tools.ToolProvider;

/** The program in README.md compiles, and prints what README.md says that it prints. */
public final class ReadmeTest {
    private static final Checks checks = new Checks();

    public static void main(String[] args) throws IOException, ReflectiveOperationException {
        String readme = Files.readString(Path.of("README.md"));
        Path directory = Files.createTempDirectory("readme");
        Path source = Files.writeString(directory.resolve("Example.java"), block(readme, "java"));
        int code = ToolProvider.getSystemJavaCompiler().run(null, null, null, "-d", directory.toString(), "-cp",
                System.getProperty("java.class.path"), source.toString());
        checks.same("compiling the example", code, 0);
        if (code == 0) {
            String printed = printed(directory);
            boolean same = printed.equals(block(readme, "text"));
            checks.holds("what README.md says; printed was:\n" + printed, same);
        }
        delete(directory);
        checks.end();
    }

    /** What stands in the first block of such a kind. */
    private static String block(String readme, String kind) {
        String opening = "```" + kind + "\n";
        int from = readme.indexOf(opening) + opening.length();
        return readme.substring(from, readme.indexOf("```\n", from));
    }

    private static String printed(Path directory) throws IOException, ReflectiveOperationException {
        PrintStream before = System.out;
        ByteArrayOutputStream bytes = new ByteArrayOutputStream();
        try (URLClassLoader loader = new URLClassLoader(new URL[] {directory.toUri().toURL()})) {
            System.setOut(new PrintStream(bytes, true, StandardCharsets.UTF_8));
            loader.loadClass("Example").getMethod("main", String[].class).invoke(null, (Object) new String[0]);
        } catch (InvocationTargetException e) {
            checks.holds("the example ends, instead of " + e.getCause(), false);
        } finally {
            System.setOut(before);
        }
        return bytes.toString(StandardCharsets.UTF_8).replace(System.lineSeparator(), "\n");
    }

    private static void delete(Path directory) throws IOException {
        for (String name : new String[] {"Example.class", "Example.java"}) {
            Files.deleteIfExists(directory.resolve(name));
        }
        Files.delete(directory);
    }
}
