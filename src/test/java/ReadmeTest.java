import java.io.IOException;
import java.lang.reflect.Method;
import java.lang.reflect.Modifier;
import java.net.URL;
import java.net.URLClassLoader;
import java.nio.file.Files;
import java.nio.file.Path;
import java.util.ArrayList;
import java.util.List;
import java.util.regex.Matcher;
import java.util.regex.Pattern;
import javax.tools.ToolProvider;

/** What README.md shows of the class's use compiles, and each call answers as it says there. */
public final class ReadmeTest {
    private static final Due DUE = new Due("ReadmeTest");
    private static final Pattern CALL =
        Pattern.compile("(yard\\.(\\w+)\\(.*\\)); +// ([^:]+)(: .+)?");
    private static final String THROWS = "throws ";

    private final List<String> methods = new ArrayList<>();
    private final List<String> calls = new ArrayList<>();
    private final List<String> got = new ArrayList<>();
    private final List<String> want = new ArrayList<>();
    private final StringBuilder body = new StringBuilder();

    public static void main(String[] args) throws IOException, ReflectiveOperationException {
        new ReadmeTest().run(Files.readAllLines(Path.of("README.md")));
        DUE.end();
    }

    private void run(List<String> readme) throws IOException, ReflectiveOperationException {
        boolean isJava = false;
        for (String line : readme) {
            if (line.startsWith("```")) {
                isJava = line.equals("```java");
            } else if (isJava) {
                take(line);
            }
        }
        everyMethodIsShown();
        compileAndAsk();
        DUE.is("calls that answered", got.size(), calls.size());
        for (int i = 0; i < got.size(); i++) {
            DUE.same(calls.get(i), got.get(i), want.get(i));
        }
    }

    /** A call without an answer behind it would look tested, so only the constructor has none. */
    private void take(String line) {
        Matcher call = CALL.matcher(line);
        if (call.matches()) {
            calls.add(call.group(1));
            methods.add(call.group(2));
            body.append(asked(call.group(1))).append(wanted(call.group(3)));
        } else {
            DUE.same("a line without an answer", line, "DrumYard yard = new DrumYard();");
            body.append(line).append('\n');
        }
    }

    private static String asked(String call) {
        return "try { got.add(\"\" + " + call + "); } catch (RuntimeException e) {"
            + " got.add(\"" + THROWS + "\" + e.getClass().getSimpleName()); }\n";
    }

    private static String wanted(String answer) {
        String text = answer.startsWith(THROWS) ? "\"" + answer + "\"" : "\"\" + (" + answer + ")";
        return "want.add(" + text + ");\n";
    }

    private void everyMethodIsShown() {
        for (Method method : DrumYard.class.getDeclaredMethods()) {
            if (Modifier.isPublic(method.getModifiers())) {
                DUE.yes(method.getName() + "() is shown", methods.contains(method.getName()));
            }
        }
    }

    private void compileAndAsk() throws IOException, ReflectiveOperationException {
        Path directory = Files.createTempDirectory("readme");
        Path source = directory.resolve("Shown.java");
        Files.writeString(source, "import java.util.List;\npublic final class Shown {\n"
            + "public static void ask(List<String> got, List<String> want) {\n" + body + "}\n}\n");
        int failed = ToolProvider.getSystemJavaCompiler().run(null, null, null,
            "-cp", System.getProperty("java.class.path"), "-d", directory.toString(),
            source.toString());
        DUE.is("javac of the blocks", failed, 0);
        if (failed == 0) {
            ask(directory);
        }
        Files.deleteIfExists(directory.resolve("Shown.class"));
        Files.delete(source);
        Files.delete(directory);
    }

    private void ask(Path directory) throws IOException, ReflectiveOperationException {
        URL[] urls = {directory.toUri().toURL()};
        try (URLClassLoader loader = new URLClassLoader(urls, ReadmeTest.class.getClassLoader())) {
            loader.loadClass("Shown").getMethod("ask", List.class, List.class)
                .invoke(null, got, want);
        }
    }
}
