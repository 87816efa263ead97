import java.io.IOException;
import java.net.URL;
import java.net.URLClassLoader;
import java.nio.file.Files;
import java.nio.file.Path;
import java.util.List;
import java.util.regex.Matcher;
import java.util.regex.Pattern;
import javax.tools.ToolProvider;

/**
 * The example of README.md is Java, and its calls answer what it tells: a comment that begins with a
 * number is the answer of the call before it. And README.md tells of each call and each test.
 */
public final class ReadmeTest {
    private static final Pattern TOLD = Pattern.compile("(\\w+\\.\\w+\\(.*\\));\\s*// (-?\\d+|true|false)\\b.*");

    public static void main(String[] args) throws Exception {
        String told = System.getenv("MEMO_PARSER_README");
        Path readme = Path.of(told == null ? "README.md" : told);
        String text = Files.readString(readme);
        runExample(text);
        tellsOfCalls(text);
        tellsOfTests(text, readme.toAbsolutePath().resolveSibling("src/test/java"));
        Check.end();
    }

    private static void runExample(String text) throws Exception {
        Matcher example = Pattern.compile("(?s)```java\n(.*?)```").matcher(text);
        Check.due("there is an example", example.find(), true);
        StringBuilder body = new StringBuilder();
        int answers = 0;
        for (String line : example.group(1).split("\n")) {
            Matcher call = TOLD.matcher(line.strip());
            answers += call.matches() ? 1 : 0;
            body.append(call.matches() ? comparison(call.group(1), call.group(2)) : line).append('\n');
        }
        Check.due("it tells answers", answers > 0, true);
        run("public final class Example {\n    public static String run() {\n        String wrong = \"\";\n"
            + body + "        return wrong;\n    }\n}\n");
    }

    private static String comparison(String call, String want) {
        String compared = "String.valueOf(" + call + ")";
        return "if (!" + compared + ".equals(\"" + want + "\")) { wrong += \"" + call.replace("\"", "") + "; \"; }";
    }

    private static void run(String source) throws Exception {
        Path folder = Files.createTempDirectory("readme");
        Path file = folder.resolve("Example.java");
        Files.writeString(file, source);
        String classes = System.getProperty("java.class.path");
        int code = ToolProvider.getSystemJavaCompiler().run(null, null, null, "-cp", classes, "-d",
                folder.toString(), file.toString());
        Check.due("the example is Java", code, 0);
        if (code == 0) {
            try (URLClassLoader loader = new URLClassLoader(new URL[] {folder.toUri().toURL()})) {
                Object wrong = loader.loadClass("Example").getMethod("run").invoke(null);
                Check.due("calls that answer otherwise", wrong, "");
            }
        }
        for (Path made : List.of(file, folder.resolve("Example.class"), folder)) {
            Files.deleteIfExists(made);
        }
    }

    private static void tellsOfCalls(String text) {
        for (var method : MemoParser.class.getDeclaredMethods()) {
            if (java.lang.reflect.Modifier.isPublic(method.getModifiers())) {
                Check.due("it tells of " + method.getName(), text.contains("`" + method.getName() + "("), true);
            }
        }
    }

    private static void tellsOfTests(String text, Path tests) throws IOException {
        Check.due("it tells how to run them", text.contains("    .ci/run\n"), true);
        try (var files = Files.list(tests)) {
            for (Path file : files.toList()) {
                String name = file.getFileName().toString().replace(".java", "");
                boolean isTest = name.endsWith("Test");
                Check.due("it tells of " + name, !isTest || text.contains(name), true);
            }
        }
    }
}
