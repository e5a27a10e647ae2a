import java.io.ByteArrayOutputStream;
import java.io.IOException;
import java.io.PrintStream;
import java.lang.reflect.Method;
import java.lang.reflect.Modifier;
import java.net.URL;
import java.net.URLClassLoader;
import java.nio.charset.StandardCharsets;
import java.nio.file.Files;
import java.nio.file.Path;
import java.util.regex.Matcher;
import java.util.regex.Pattern;
import javax.tools.ToolProvider;

/** What README.md shows is what happens: its example prints what stands there, and it names each call. Runs at the project's root. */
public final class ReadmeTest {
    public static void main(String[] args) throws IOException, ReflectiveOperationException {
        String readme = Files.readString(Path.of("README.md"));
        Check.due("the example prints what README.md says", printed(block(readme, "java")).equals(block(readme, "text")) ? 1 : 0, 1);
        for (Method m : MoleBoard.class.getDeclaredMethods()) {
            if (Modifier.isPublic(m.getModifiers())) {
                Check.due("README.md names " + m.getName(), readme.contains("`" + m.getName() + "`") ? 1 : 0, 1);
            }
        }
        Check.end("ReadmeTest");
    }

    private static String block(String readme, String kind) {
        Matcher m = Pattern.compile("(?s)```" + kind + "\n(.*?)```").matcher(readme);
        return m.find() ? m.group(1) : "";
    }

    private static String printed(String example) throws IOException, ReflectiveOperationException {
        Path place = Files.createTempDirectory("readme");
        Path source = place.resolve("Example.java");
        Files.writeString(source, example);
        String classes = System.getProperty("java.class.path");
        int wrong = ToolProvider.getSystemJavaCompiler().run(null, null, null, "-proc:none", "-cp", classes, "-d", place.toString(), source.toString());
        Check.due("the example compiles", wrong, 0);
        ByteArrayOutputStream told = new ByteArrayOutputStream();
        if (wrong == 0) {
            runExample(place, told);
        }
        Files.deleteIfExists(place.resolve("Example.class"));
        Files.delete(source);
        Files.delete(place);
        return told.toString(StandardCharsets.UTF_8).replace("\r\n", "\n");
    }

    private static void runExample(Path place, ByteArrayOutputStream told) throws IOException, ReflectiveOperationException {
        PrintStream screen = System.out;
        try (URLClassLoader loader = new URLClassLoader(new URL[] {place.toUri().toURL()})) {
            System.setOut(new PrintStream(told, true, StandardCharsets.UTF_8));
            loader.loadClass("Example").getMethod("main", String[].class).invoke(null, (Object) new String[0]);
        } finally {
            System.setOut(screen);
        }
    }
}
