import java.io.IOException;
import java.lang.reflect.Method;
import java.lang.reflect.Modifier;
import java.net.URL;
import java.net.URLClassLoader;
import java.nio.charset.StandardCharsets;
import java.nio.file.Files;
import java.nio.file.Path;
import java.util.ArrayList;
import java.util.List;
import java.util.regex.Matcher;
import java.util.regex.Pattern;
import javax.tools.ToolProvider;

/** README.md: its examples are compiled and run, and each line of them must answer what stands behind it. */
public final class ReadmeTest {
    private static final Check check = new Check("ReadmeTest");
    private static final Pattern EXAMPLE = Pattern.compile("(?s)```java\n(.*?)```");
    /** A call, and behind "//" its answer, up to a colon. */
    private static final Pattern LINE = Pattern.compile("(room\\..*\\)); *// ([^:]*).*");

    /** A call of an example. */
    public interface Call {
        Object on();
    }

    public static void main(String[] args) throws Exception {
        String page = Files.readString(Path.of("README.md"), StandardCharsets.UTF_8);
        namesAllCalls(page);
        List<String> examples = new ArrayList<>();
        for (Matcher m = EXAMPLE.matcher(page); m.find();) examples.add(m.group(1));
        check.same("there are examples", examples.size() >= 3, true);
        run(examples);
        check.end();
    }

    private static void namesAllCalls(String page) {
        for (Method m : ScriptRoom.class.getDeclaredMethods()) {
            if (!Modifier.isPublic(m.getModifiers())) continue;
            check.same("the page tells of " + m.getName(), page.contains("`" + m.getName() + "("), true);
        }
    }

    /** What the lines of the examples come to. */
    public static void due(String call, Call made, String answer) {
        String got;
        try {
            got = String.valueOf(made.on());
        } catch (RuntimeException e) {
            got = "throws " + e.getClass().getSimpleName();
        }
        check.same(call, got, answer);
    }

    private static String asCode(String example) {
        StringBuilder code = new StringBuilder();
        for (String line : example.split("\n")) {
            Matcher m = LINE.matcher(line);
            if (m.matches()) code.append("ReadmeTest.due(\"" + m.group(1) + "\", () -> " + m.group(1) + ", \"" + m.group(2).strip() + "\");\n");
            else if (line.contains("//")) check.fail("no call and its answer: " + line);
            else code.append(line + "\n");
        }
        return code.toString();
    }

    private static void run(List<String> examples) throws Exception {
        StringBuilder source = new StringBuilder("public final class Examples {\n");
        for (int i = 0; i < examples.size(); i++) {
            source.append("public static void example" + i + "() {\n" + asCode(examples.get(i)) + "}\n");
        }
        Path place = compiled(source + "}\n");
        try (URLClassLoader loader = new URLClassLoader(new URL[] {place.toUri().toURL()})) {
            Class<?> all = loader.loadClass("Examples");
            for (int i = 0; i < examples.size(); i++) all.getMethod("example" + i).invoke(null);
        }
        for (String name : new String[] {"Examples.class", "Examples.java"}) Files.delete(place.resolve(name));
        Files.delete(place);
    }

    private static Path compiled(String source) throws IOException {
        Path place = Files.createTempDirectory("readme");
        Path file = Files.writeString(place.resolve("Examples.java"), source);
        int code = ToolProvider.getSystemJavaCompiler()
            .run(null, null, null, "-cp", System.getProperty("java.class.path"), "-d", place.toString(), file.toString());
        check.same("the examples compile", code, 0);
        return place;
    }
}
