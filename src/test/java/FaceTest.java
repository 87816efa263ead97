import java.io.IOException;
import java.lang.reflect.Constructor;
import java.lang.reflect.Field;
import java.lang.reflect.Method;
import java.lang.reflect.Modifier;
import java.util.ArrayList;
import java.util.Arrays;
import java.util.List;
import java.util.TreeSet;
import java.util.stream.Collectors;

/** The public face of the document, and no other member of the class that could be seen from outside. */
public final class FaceTest {
    private static final String[] FACE = {
        "int plain(int) throws IllegalArgumentException, IllegalStateException",
        "int range(int, int) throws IllegalArgumentException, IllegalStateException",
        "int rule(int) throws IndexOutOfBoundsException, IllegalStateException",
        "int join(int, int, int) throws IndexOutOfBoundsException, IllegalArgumentException, IllegalStateException",
        "int wrap(int, int) throws IndexOutOfBoundsException, IllegalArgumentException, IllegalStateException",
        "int define(int, int) throws IndexOutOfBoundsException",
        "int expressionCount()",
        "boolean canBeEmpty(int) throws IndexOutOfBoundsException",
        "boolean isLeftRecursive(int) throws IndexOutOfBoundsException",
        "int replace(int, int, long) throws IndexOutOfBoundsException, IllegalArgumentException, "
            + "IllegalStateException",
        "int size()",
        "int byteAt(int) throws IndexOutOfBoundsException",
        "int parse(int, int) throws IndexOutOfBoundsException",
        "int work()",
        "int hits()",
        "int growths()",
        "int farthest()",
        "int remembered()",
        "int result(int, int) throws IndexOutOfBoundsException",
        "int reach(int, int) throws IndexOutOfBoundsException",
        "int forget()",
        "long digest()",
    };

    public static void main(String[] args) throws IOException {
        theDocument();
        theClass();
        methods();
        hiddenMembers();
        nestedClasses();
        Check.end();
    }

    /** The document tells each signature twice: in the public face, and above its promise. */
    private static void theDocument() throws IOException {
        List<String> want = new ArrayList<>(List.of("MemoParser()"));
        want.addAll(Arrays.asList(FACE));
        List<String> face = new ArrayList<>();
        List<String> promises = new ArrayList<>();
        for (String line : Doc.lines()) {
            if (line.startsWith("    public ")) {
                face.add(withoutNames(line.replaceAll("^ *public |;$", "")));
            } else if (line.matches("`[^`]*`")) {
                promises.add(withoutNames(line.replace("`", "")));
            }
        }
        Check.due("the public face of the document", face.toString(), want.toString());
        Check.due("the promises of the document", promises.toString(), want.toString());
    }

    private static String withoutNames(String signature) {
        return signature.replaceAll("(int|long) \\w+([,)])", "$1$2");
    }

    private static void theClass() {
        int modifiers = MemoParser.class.getModifiers();
        Check.due("public", Modifier.isPublic(modifiers), true);
        Check.due("final", Modifier.isFinal(modifiers), true);
        Check.due("package", MemoParser.class.getPackageName(), "");
        Check.due("superclass", MemoParser.class.getSuperclass(), Object.class);
        Check.due("interfaces", MemoParser.class.getInterfaces().length, 0);
        Constructor<?>[] constructors = MemoParser.class.getDeclaredConstructors();
        Check.due("constructors", constructors.length, 1);
        Check.due("its parameters", constructors[0].getParameterCount(), 0);
        Check.due("it is public", Modifier.isPublic(constructors[0].getModifiers()), true);
    }

    private static String signature(Method m) {
        String parameters = names(m.getParameterTypes());
        String exceptions = names(m.getExceptionTypes());
        return m.getReturnType().getSimpleName() + " " + m.getName() + "(" + parameters + ")"
            + (exceptions.isEmpty() ? "" : " throws " + exceptions);
    }

    private static String names(Class<?>[] types) {
        return Arrays.stream(types).map(Class::getSimpleName).collect(Collectors.joining(", "));
    }

    private static void methods() {
        TreeSet<String> got = new TreeSet<>();
        for (Method m : MemoParser.class.getDeclaredMethods()) {
            if (!Modifier.isPrivate(m.getModifiers())) {
                Check.due(m.getName() + " is public", Modifier.isPublic(m.getModifiers()), true);
                Check.due(m.getName() + " is of objects", Modifier.isStatic(m.getModifiers()), false);
                got.add(signature(m));
            }
        }
        Check.due("the methods", got.toString(), new TreeSet<>(Arrays.asList(FACE)).toString());
    }

    /** No field can be seen, none that is static can change, and no hidden method bears a name of the face. */
    private static void hiddenMembers() {
        TreeSet<String> face = new TreeSet<>();
        for (Method m : MemoParser.class.getMethods()) {
            face.add(m.getName());
        }
        for (Method m : MemoParser.class.getDeclaredMethods()) {
            if (Modifier.isPrivate(m.getModifiers())) {
                Check.due("hidden " + m.getName() + " is in the face", face.contains(m.getName()), false);
            }
        }
        for (Field f : MemoParser.class.getDeclaredFields()) {
            Check.due(f.getName() + " is private", Modifier.isPrivate(f.getModifiers()), true);
            Check.due(f.getName() + " is final", Modifier.isFinal(f.getModifiers()), true);
        }
    }

    private static void nestedClasses() {
        Class<?>[] nested = MemoParser.class.getDeclaredClasses();
        Check.due("at most twelve classes", nested.length < 12, true);
        for (Class<?> c : nested) {
            int modifiers = c.getModifiers();
            Check.due(c + " is static", Modifier.isStatic(modifiers), true);
            Check.due(c + " is hidden", Modifier.isPublic(modifiers) || Modifier.isProtected(modifiers), false);
            Check.due(c + " has at most twenty fields", c.getDeclaredFields().length <= 20, true);
            for (Method m : c.getDeclaredMethods()) {
                Check.due(m + " has at most seven parameters", m.getParameterCount() <= 7, true);
            }
        }
    }
}
