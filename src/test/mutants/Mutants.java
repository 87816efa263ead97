import java.io.ByteArrayOutputStream;
import java.io.IOException;
import java.io.OutputStream;
import java.io.PrintStream;
import java.lang.reflect.Method;
import java.net.URI;
import java.nio.file.Files;
import java.nio.file.Path;
import java.util.ArrayList;
import java.util.Arrays;
import java.util.HashMap;
import java.util.List;
import java.util.Map;
import java.util.concurrent.ExecutorService;
import java.util.concurrent.Executors;
import java.util.concurrent.Future;
import java.util.regex.Matcher;
import java.util.regex.Pattern;
import java.util.stream.Stream;
import javax.tools.FileObject;
import javax.tools.ForwardingJavaFileManager;
import javax.tools.JavaCompiler;
import javax.tools.JavaFileManager;
import javax.tools.JavaFileObject;
import javax.tools.SimpleJavaFileObject;
import javax.tools.ToolProvider;

/**
 * Breaks MemoParser in many small ways, one at a time, and tells which ways SentencesTest does not
 * notice. By hand, from the project's folder: java src/test/mutants/Mutants.java
 * What it lists is either no break at all, or a sentence of the document without a test.
 */
public final class Mutants {
    private static final long LONGEST_MILLIS = 60_000;
    private static final Path SOURCE = Path.of("src/main/java/MemoParser.java");
    private static final Path TESTS = Path.of("src/test/java");

    /** What a pattern matches (its group 1, where it has one), and what is put there instead. */
    private static final String[][] SWAPS = {
        {" < ", " <= ", " >= "}, {" > ", " >= ", " <= "}, {" <= ", " < ", " > "}, {" >= ", " > ", " < "},
        {" == ", " != "}, {" != ", " == "}, {" && ", " || "}, {" \\|\\| ", " && "},
        {" \\+ ", " - "}, {" - ", " + "}, {" \\+= ", " -= ", " = "}, {" \\|= ", " = ", " &= "}, {" &= ", " |= ", " = "},
        {" & ", " | "}, {" \\| ", " & "}, {"\\+\\+", "--"}, {"!(?=[a-z(])", ""}, {"\\btrue\\b", "false"},
        {"\\bfalse\\b", "true"}, {"Math\\.max", "Math.min"}, {"Math\\.min", "Math.max"}, {">>>", ">>", "<<"},
        {"(?<![\\w.])(\\d+)\\b", "($1 + 1)", "($1 - 1)"},
        {"(?<=[ (\\[])(\\b(?:place|found|here|from|many|behind|added|by|reach|depth|number|size|cell)\\b)(?=[ );,\\]])",
            "($1 + 1)", "($1 - 1)"},
        {"\\b(?:NONE|FAILURE)\\b", "(-2)", "(-3)"}, {"\\bEXHAUSTED\\b", "(-1)", "(-3)"},
        {"\\b(?:NOT_REMEMBERED|UNKNOWN)\\b", "(-1)", "(-2)"},
        {"\\b(?:IllegalStateException|IllegalArgumentException|IndexOutOfBoundsException)(?=\\(\")",
            "IllegalStateException", "IllegalArgumentException", "IndexOutOfBoundsException"},
        {"\\bfirst\\b", "second"}, {"\\bsecond\\b", "first"}, {"\\brule\\b", "(9 - rule)"},
        {"(?m)^ +[a-z][\\w.]*(?:\\[[^=]*\\])?(?:\\([^=]*\\)| \\S?= [^;]*|\\+\\+|--);$", ""},
        {"(?m)^ +(?:break|continue);$", ""}, {"(?m)^ +(return [^;]*);$", "return 0;", "return -1;", "return true;",
            "return false;"},
        {"(?m)\\bif \\((.*)\\) \\{$", "true", "false"},
    };

    private record Mutant(int line, String was, String is, String source) {
    }

    private static final class Text extends SimpleJavaFileObject {
        private final String content;

        Text(String content) {
            super(URI.create("string:///MemoParser.java"), Kind.SOURCE);
            this.content = content;
        }

        @Override
        public CharSequence getCharContent(boolean ignoreErrors) {
            return content;
        }
    }

    private static final class Code extends SimpleJavaFileObject {
        final ByteArrayOutputStream bytes = new ByteArrayOutputStream();

        Code(String name) {
            super(URI.create("code:///" + name.replace('.', '/') + ".class"), Kind.CLASS);
        }

        @Override
        public OutputStream openOutputStream() {
            return bytes;
        }
    }

    /** Keeps what is compiled in memory. */
    private static final class Room extends ForwardingJavaFileManager<JavaFileManager> {
        final Map<String, Code> codes = new HashMap<>();

        Room(JavaFileManager below) {
            super(below);
        }

        @Override
        public JavaFileObject getJavaFileForOutput(Location l, String name, JavaFileObject.Kind k, FileObject f) {
            return codes.computeIfAbsent(name, Code::new);
        }
    }

    /** Each mutant has classes of its own, the tests' too, for these count in static fields. */
    private static final class Loader extends ClassLoader {
        private final Map<String, byte[]> codes;

        Loader(Map<String, byte[]> codes) {
            super(ClassLoader.getPlatformClassLoader());
            this.codes = codes;
        }

        @Override
        protected Class<?> findClass(String name) throws ClassNotFoundException {
            byte[] code = codes.get(name);
            if (code == null) {
                throw new ClassNotFoundException(name);
            }
            return defineClass(name, code, 0, code.length);
        }
    }

    private static final PrintStream OUT = System.out;

    public static void main(String[] args) throws Exception {
        System.setOut(new PrintStream(OutputStream.nullOutputStream()));
        String source = Files.readString(SOURCE);
        Map<String, byte[]> tests = compileTests();
        if (notices(tests, compile(new Text(source)))) {
            OUT.println("SentencesTest does not pass as it is");
            System.exit(1);
        }
        List<Mutant> mutants = mutantsOf(source);
        ExecutorService workers = Executors.newFixedThreadPool(Runtime.getRuntime().availableProcessors());
        List<Future<String>> answers = new ArrayList<>();
        for (Mutant mutant : mutants) {
            answers.add(workers.submit(() -> judge(mutant, tests)));
        }
        Map<String, Integer> counts = new HashMap<>();
        for (int i = 0; i < mutants.size(); i++) {
            String answer = answers.get(i).get();
            counts.merge(answer, 1, Integer::sum);
            if (answer.equals("not noticed")) {
                Mutant m = mutants.get(i);
                OUT.println("line " + m.line + ": " + m.was.strip() + "   ->   " + m.is.strip());
            }
        }
        OUT.println(counts);
        System.exit(0);
    }

    private static List<Mutant> mutantsOf(String source) {
        boolean[] code = codeOf(source);
        List<Mutant> mutants = new ArrayList<>();
        for (String[] swap : SWAPS) {
            Matcher m = Pattern.compile(swap[0]).matcher(source);
            while (m.find()) {
                int group = m.groupCount() > 0 ? 1 : 0;
                for (int i = 1; i < swap.length && code[m.start(group)]; i++) {
                    String with = swap[i].replace("$1", m.group(group));
                    String mutated = source.substring(0, m.start(group)) + with + source.substring(m.end(group));
                    if (!mutated.equals(source)) {
                        mutants.add(mutant(source, mutated, m.start(group), m.end(group), with));
                    }
                }
            }
        }
        return mutants;
    }

    private static Mutant mutant(String source, String mutated, int start, int end, String with) {
        int at = start;
        while (source.charAt(at) == ' ') {
            at++;
        }
        int line = (int) source.substring(0, at).chars().filter(c -> c == '\n').count() + 1;
        int begin = source.lastIndexOf('\n', at - 1) + 1;
        String was = source.substring(begin, source.indexOf('\n', end));
        String is = source.substring(begin, Math.max(begin, start)) + with + source.substring(end,
            source.indexOf('\n', end));
        return new Mutant(line, was, is, mutated);
    }

    /** Which signs are neither of a comment nor of an import or a text. */
    private static boolean[] codeOf(String source) {
        boolean[] code = new boolean[source.length()];
        Arrays.fill(code, true);
        Matcher m = Pattern.compile("(?s)/\\*.*?\\*/|//[^\n]*|\"[^\"\n]*\"|import [^\n]*").matcher(source);
        while (m.find()) {
            Arrays.fill(code, m.start(), m.end(), false);
        }
        return code;
    }

    private static String judge(Mutant mutant, Map<String, byte[]> tests) throws Exception {
        Map<String, byte[]> compiled = compile(new Text(mutant.source));
        if (compiled == null) {
            return "no Java";
        }
        boolean[] noticed = {true};
        Thread thread = new Thread(() -> noticed[0] = notices(tests, compiled));
        thread.setDaemon(true);
        thread.start();
        thread.join(LONGEST_MILLIS);
        return noticed[0] ? "noticed" : "not noticed";
    }

    private static boolean notices(Map<String, byte[]> tests, Map<String, byte[]> compiled) {
        Map<String, byte[]> all = new HashMap<>(tests);
        all.putAll(compiled);
        try {
            Loader loader = new Loader(all);
            open(loader.loadClass("SentencesTest").getDeclaredMethod("all")).invoke(null);
            return (int) open(loader.loadClass("Check").getDeclaredMethod("wrongOnes")).invoke(null) > 0;
        } catch (ReflectiveOperationException | LinkageError e) {
            return true;
        }
    }

    private static Method open(Method method) {
        method.setAccessible(true);
        return method;
    }

    private static Map<String, byte[]> compileTests() throws IOException {
        JavaCompiler compiler = ToolProvider.getSystemJavaCompiler();
        try (var files = compiler.getStandardFileManager(null, null, null); Stream<Path> all = Files.list(TESTS)) {
            Room room = new Room(files);
            List<Path> paths = new ArrayList<>(all.filter(p -> p.toString().endsWith(".java")).toList());
            paths.add(SOURCE);
            compiler.getTask(null, room, null, List.of("-nowarn"), null, files.getJavaFileObjectsFromPaths(paths)).call();
            return bytesOf(room);
        }
    }

    /** Null if it is no Java. */
    private static Map<String, byte[]> compile(Text text) throws IOException {
        JavaCompiler compiler = ToolProvider.getSystemJavaCompiler();
        try (var files = compiler.getStandardFileManager(null, null, null)) {
            Room room = new Room(files);
            boolean right = compiler.getTask(null, room, d -> { }, List.of("-nowarn"), null, List.of(text)).call();
            return right ? bytesOf(room) : null;
        }
    }

    private static Map<String, byte[]> bytesOf(Room room) {
        Map<String, byte[]> bytes = new HashMap<>();
        room.codes.forEach((name, code) -> bytes.put(name, code.bytes.toByteArray()));
        return bytes;
    }
}
