import java.io.File;
import java.io.IOException;
import java.lang.reflect.Method;
import java.lang.reflect.Modifier;
import java.net.MalformedURLException;
import java.net.URL;
import java.net.URLClassLoader;
import java.nio.file.Files;
import java.nio.file.Path;
import java.util.ArrayList;
import java.util.List;
import java.util.regex.Matcher;
import java.util.regex.Pattern;
import javax.tools.ToolProvider;

/** README.md names each call of the face, and its example compiles and answers what it tells. */
public final class ReadmeTest {
    private static final Path README = Path.of("README.md");
    // A call, and behind it a comment that begins with its answer.
    private static final Pattern TOLD = Pattern.compile("(?m)^ *(web\\.[^;\\n]+); *// (-?\\d+): .*$");

    public static void main(String[] args) throws IOException, ReflectiveOperationException {
        String text = Files.readString(README);
        for (Method each : BarrierMarks.class.getDeclaredMethods()) {
            if (Modifier.isPublic(each.getModifiers())) {
                Check.due("README.md tells of " + each.getName(), true, () -> text.contains("`" + each.getName() + "("));
            }
        }
        runExample(text);
        Check.end("ReadmeTest");
    }

    private static void runExample(String text) throws IOException, ReflectiveOperationException {
        Matcher block = Pattern.compile("(?s)```java\\n(.*?)```").matcher(text);
        if (!block.find()) {
            Check.due("README.md has an example", true, () -> false);
            return;
        }
        Matcher calls = TOLD.matcher(block.group(1));
        StringBuilder body = new StringBuilder();
        int count = 0;
        for (; calls.find(); count++) {
            calls.appendReplacement(body, "Check.due(\"README.md: $1\", $2, () -> $1);");
        }
        calls.appendTail(body);
        int asked = count;
        Check.due("the example tells answers", true, () -> asked > 0);
        // The last call stands in an if, so without a complete mark it would not be asked.
        String wrapped = "public final class ReadmeExample { public static void main(String[] args) {\n" + body
            + "Check.due(\"README.md: complete\", 1, () -> web.condition(mark));\nCheck.end(\"ReadmeExample\"); } }\n";
        compileAndRun(wrapped);
    }

    private static void compileAndRun(String source) throws IOException, ReflectiveOperationException {
        Path folder = Files.createTempDirectory("readme");
        Path file = folder.resolve("ReadmeExample.java");
        // What is named last goes first; a wrong answer ends the program, so nothing can be cleared behind the run.
        for (Path each : List.of(folder, file, folder.resolve("ReadmeExample.class"))) {
            each.toFile().deleteOnExit();
        }
        String classPath = System.getProperty("java.class.path");
        Files.writeString(file, source);
        int failed = ToolProvider.getSystemJavaCompiler()
            .run(null, null, null, "-cp", classPath, "-d", folder.toString(), file.toString());
        Check.due("the example compiles", 0, () -> failed);
        if (failed == 0) {
            // One loader for all of it, since the tests' helpers are visible in one package of one loader alone.
            URL[] places = placesOf(classPath + File.pathSeparator + folder);
            try (URLClassLoader loader = new URLClassLoader(places, ClassLoader.getPlatformClassLoader())) {
                loader.loadClass("ReadmeExample").getMethod("main", String[].class).invoke(null, (Object) new String[0]);
            }
        }
    }

    private static URL[] placesOf(String paths) throws MalformedURLException {
        List<URL> places = new ArrayList<>();
        for (String each : paths.split(File.pathSeparator)) {
            places.add(new File(each).toURI().toURL());
        }
        return places.toArray(new URL[0]);
    }
}
