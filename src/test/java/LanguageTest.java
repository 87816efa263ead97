import java.io.IOException;
import java.nio.file.Files;
import java.nio.file.Path;
import java.util.List;
import java.util.regex.Matcher;
import java.util.regex.Pattern;

/** Some rules of LANGUAGE.md that can be read off the source; .ci/run tells where it is. */
public final class LanguageTest {
    /** Words that rules 2, 3, 4, 6 and 13 leave no room for. */
    private static final String[] NEVER = {"\\btry\\b", "\\bcatch\\b", "\\bfinally\\b", "\\bsynchronized\\b",
        "\\bassert\\b", "->", "::", "\\bdouble\\b", "\\bfloat\\b", "\\bObject\\b", "\\bvar\\b", "\\bhashCode\\b",
        "\\btoString\\b", "\\bRandom\\b", "\\bThread\\b", "\\bcurrentTimeMillis\\b", "\\bnanoTime\\b", "Exact\\b",
        "\\bwhile\\b", "\\bpackage\\b", "\\bstatic \\{", "\\binstanceof\\b", "\\bprotected\\b"};

    public static void main(String[] args) throws IOException {
        String source = System.getenv("MEMO_PARSER_SOURCE");
        Path path = Path.of(source == null ? "src/main/java/MemoParser.java" : source);
        List<String> lines = Files.readAllLines(path);
        String code = withoutComments(String.join("\n", lines));
        String withoutTexts = code.replaceAll("\"[^\"\n]*\"", "\"\"");
        forbiddenWords(withoutTexts);
        imports(code);
        throwsOnlyWhatMayBeThrown(code);
        fillsNumbersAlone(code);
        makesObjectsOnlyWithItself(withoutTexts);
        shortMethods(lines);
        plainSigns(code);
        Check.end();
    }

    private static String withoutComments(String source) {
        return source.replaceAll("(?s)/\\*.*?\\*/", "").replaceAll("//[^\n]*", "");
    }

    private static void forbiddenWords(String code) {
        for (String word : NEVER) {
            Check.due("the source has " + word, Pattern.compile(word).matcher(code).find(), false);
        }
    }

    private static void imports(String code) {
        Matcher m = Pattern.compile("import ([^;]*);").matcher(code);
        while (m.find()) {
            Check.due("import", m.group(1), "java.util.Arrays");
        }
    }

    /** Rule 6: throw new E("a written text"), of the classes that the document names. */
    private static void throwsOnlyWhatMayBeThrown(String code) {
        Matcher m = Pattern.compile("\\bthrow\\b([^;]*);").matcher(code);
        String wanted = " new (IllegalStateException|IllegalArgumentException|IndexOutOfBoundsException)"
            + "\\(\"[^\"]*\"\\)";
        int count = 0;
        while (m.find()) {
            count++;
            Check.due("throw" + m.group(1), m.group(1).matches(wanted), true);
        }
        Check.due("there are throws", count > 0, true);
    }

    /** Rule 4: Arrays.fill over arrays of numbers, not of booleans. */
    private static void fillsNumbersAlone(String code) {
        Matcher m = Pattern.compile("Arrays\\.\\w+\\((\\w+)").matcher(code);
        while (m.find()) {
            String declared = "\\b(int|long|short|byte|char)\\[\\] " + m.group(1) + "\\b";
            Check.due(m.group() + " is of numbers", Pattern.compile(declared).matcher(code).find(), true);
        }
    }

    /** Rule 12: what is made is thrown, or stands in a final field and thus is made with its object. */
    private static void makesObjectsOnlyWithItself(String code) {
        Matcher m = Pattern.compile("[^\n;{]*\\bnew\\b").matcher(code);
        while (m.find()) {
            String before = m.group().strip();
            boolean made = before.matches("throw new|private final [\\w\\[\\]]+ \\w+ = new");
            Matcher field = Pattern.compile("(\\w+) = new").matcher(before);
            if (!made && field.matches()) {
                made = Pattern.compile("private final \\w+ " + field.group(1) + ";").matcher(code).find();
            }
            Check.due(before + " is thrown or of a final field", made, true);
        }
    }

    /** Rule 11; a method begins with a line that ends its parameters and opens a brace. */
    private static void shortMethods(List<String> lines) {
        int start = -1;
        for (int i = 0; i < lines.size(); i++) {
            String line = lines.get(i);
            if (line.matches(" {4,8}[a-z].*\\(.*") && !line.endsWith(";")) {
                start = i;
            }
            if (line.matches(" {4,8}}") && start >= 0) {
                Check.due("short enough: " + lines.get(start).trim(), i - start + 1 <= 60, true);
                start = -1;
            }
        }
    }

    private static void plainSigns(String code) {
        Check.due("signs 1 to 127 alone", code.chars().allMatch(sign -> sign > 0 && sign < 128), true);
    }
}
