import java.io.File;
import java.io.IOException;
import java.lang.reflect.InvocationTargetException;
import java.net.URI;
import java.nio.file.Files;
import java.nio.file.Path;
import java.util.List;
import java.util.regex.Matcher;
import java.util.regex.Pattern;
import javax.tools.JavaCompiler;
import javax.tools.JavaFileObject;
import javax.tools.SimpleJavaFileObject;
import javax.tools.ToolProvider;

/** Makes the calls of README.md, and compares the answers behind their '//'. Runs in the project's folder. */
public final class ReadmeTest {
    private static final Path README = Path.of("README.md");
    private static final Path DOCUMENT = Path.of("../shared/DOC.md");
    private static final String CLASSES = System.getProperty("java.class.path");

    private static final Pattern EXAMPLE = Pattern.compile("(?s)```java\n(.*?)```");
    private static final Pattern CALL =
        Pattern.compile("(z\\.\\w+\\(.*\\)); +// (-?\\d+|ZeroParts\\.NONE|\\w+Exception)(:.*)?");
    private static final Pattern PROMISE = Pattern.compile("(?m)^## Promise (\\d+): (\\w+)$");

    public static void main(String[] args) throws IOException, ReflectiveOperationException {
        String readme = Files.readString(README);
        runExamples(readme);
        namesOfCalls(readme);
        Check.finish();
    }

    private static void runExamples(String readme) throws IOException, ReflectiveOperationException {
        String source = sourceOf(readme);
        if (!compiles(source)) {
            Check.isTrue("the examples of README.md compile", false);
            return;
        }
        try {
            Class.forName("Examples").getMethod("run").invoke(null);
        } catch (InvocationTargetException e) {
            Check.sameText("an example of README.md ended with", String.valueOf(e.getCause()), "nothing");
        }
    }

    private static String sourceOf(String readme) {
        StringBuilder source = new StringBuilder("public final class Examples {\npublic static void run() {\n");
        Matcher example = EXAMPLE.matcher(readme);
        int calls = 0;
        while (example.find()) {
            source.append("{\n");
            for (String line : example.group(1).split("\n")) {
                Matcher call = CALL.matcher(line);
                source.append(call.matches() ? checked(call.group(1), call.group(2)) : line).append('\n');
                calls += call.matches() ? 1 : 0;
                Check.isTrue("README.md tells an answer for: " + line, call.matches() || !line.startsWith("z."));
            }
            source.append("}\n");
        }
        Check.isTrue("README.md has calls with answers", calls >= 30);
        return source.append("}\n}\n").toString();
    }

    private static String checked(String call, String answer) {
        String due = answer.endsWith("Exception") ? "throws." + answer : answer.replace("ZeroParts.NONE", "-1");
        return "Check.sameText(\"README.md: " + call + "\", Check.answerOf(() -> " + call + "), \"" + due + "\");";
    }

    /** Compiles into the folder of this test's own classes, where package-visible ones can be used. */
    private static boolean compiles(String source) {
        JavaCompiler compiler = ToolProvider.getSystemJavaCompiler();
        if (compiler == null) {
            return false;
        }
        String folder = CLASSES.split(File.pathSeparator)[0];
        List<String> options = List.of("-proc:none", "-implicit:none", "-d", folder, "-cp", CLASSES);
        JavaFileObject file = new SimpleJavaFileObject(URI.create("string:///Examples.java"), JavaFileObject.Kind.SOURCE) {
            @Override
            public CharSequence getCharContent(boolean ignoreEncodingErrors) {
                return source;
            }
        };
        return compiler.getTask(null, null, null, options, null, List.of(file)).call();
    }

    /** Each call of the document stands in README.md with the number of its promise. */
    private static void namesOfCalls(String readme) throws IOException {
        if (!Files.exists(DOCUMENT)) {
            System.out.println("no " + DOCUMENT + " to take the names of the calls from");
            return;
        }
        Matcher promise = PROMISE.matcher(Files.readString(DOCUMENT));
        int calls = 0;
        while (promise.find()) {
            Pattern named = Pattern.compile("`" + promise.group(2) + "`\\s+\\(" + promise.group(1) + "[;)]");
            Check.isTrue("README.md names " + promise.group(2), named.matcher(readme).find());
            calls++;
        }
        Check.same("calls of the document", calls, 26);
    }
}
