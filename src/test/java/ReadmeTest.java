import java.io.ByteArrayOutputStream;
import java.io.IOException;
import java.io.PrintStream;
import java.lang.reflect.Method;
import java.lang.reflect.Modifier;
import java.net.URL;
import java.net.URLClassLoader;
import java.nio.charset.StandardCharsets;
import java.nio.file.Files;
import java.nio.file.Path;
import java.util.List;
import java.util.regex.Matcher;
import java.util.regex.Pattern;
import java.util.stream.Collectors;
import java.util.stream.Stream;
import javax.tools.ToolProvider;

/** README.md is true: its example prints what it says, and it names each call and each file of tests. */
public final class ReadmeTest {
    private static final Path PAGE = Path.of("README.md");
    private static final Path TESTS = Path.of("src/test/java");

    private static int faults = 0;

    public static void main(String[] args) throws Exception {
        String page = Files.readString(PAGE, StandardCharsets.UTF_8);
        checkExample(block(page, "java"), block(page, "text"));
        for (Method method : PatternFinder.class.getDeclaredMethods()) {
            if (Modifier.isPublic(method.getModifiers())) {
                need(page.contains("`" + method.getName() + "`"), "the call " + method.getName() + " is not named");
            }
        }
        for (String file : testFiles()) {
            need(page.contains(file + "`"), "the file " + file + " is not named");
        }
        System.out.println("ReadmeTest: " + faults + " faults");
        if (faults != 0) {
            System.exit(1);
        }
    }

    private static void need(boolean isTrue, String fault) {
        if (!isTrue) {
            faults++;
            System.out.println("ReadmeTest: " + fault);
        }
    }

    private static String block(String page, String language) {
        Matcher matcher = Pattern.compile("(?s)```" + language + "\n(.*?)```").matcher(page);
        boolean isThere = matcher.find();
        need(isThere, "there is no block of " + language);
        return isThere ? matcher.group(1) : "";
    }

    private static List<String> testFiles() throws IOException {
        try (Stream<Path> files = Files.list(TESTS)) {
            return files.map(file -> file.getFileName().toString()).sorted().collect(Collectors.toList());
        }
    }

    private static void checkExample(String example, String due) throws Exception {
        Path place = Files.createTempDirectory("readme");
        Path source = place.resolve("Example.java");
        Path compiled = place.resolve("Example.class");
        Files.writeString(source,
                "public class Example { public static void main(String[] args) {\n" + example + "} }\n");
        int status = ToolProvider.getSystemJavaCompiler().run(null, null, null, "-proc:none", "-classpath",
                System.getProperty("java.class.path"), "-d", place.toString(), source.toString());
        need(status == 0, "the example does not compile");
        if (status == 0) {
            String got = printed(place);
            need(got.equals(due), "the example prints\n" + got);
        }
        Files.deleteIfExists(compiled);
        Files.delete(source);
        Files.delete(place);
    }

    private static String printed(Path place) throws Exception {
        ByteArrayOutputStream bytes = new ByteArrayOutputStream();
        PrintStream before = System.out;
        try (URLClassLoader loader = new URLClassLoader(new URL[] {place.toUri().toURL()});
                PrintStream into = new PrintStream(bytes, true, StandardCharsets.UTF_8)) {
            System.setOut(into);
            loader.loadClass("Example").getMethod("main", String[].class).invoke(null, (Object) new String[0]);
        } finally {
            System.setOut(before);
        }
        return bytes.toString(StandardCharsets.UTF_8).replace(System.lineSeparator(), "\n");
    }
}
