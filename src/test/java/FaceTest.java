import java.io.IOException;
import java.lang.reflect.Constructor;
import java.lang.reflect.Field;
import java.lang.reflect.Method;
import java.lang.reflect.Modifier;
import java.nio.file.Files;
import java.nio.file.Path;
import java.util.Arrays;
import java.util.Set;
import java.util.TreeSet;
import java.util.regex.Matcher;
import java.util.regex.Pattern;

/** The document's public face, and those rules of LANGUAGE.md that can be told from the class and its text. */
public final class FaceTest {
    private static final Set<String> FACE = Set.of(
        "int add(3)", "int back(0)", "int read(1)", "int seal(0)", "int layer(1)", "int set(2)", "int commit(2)",
        "long reach(1)", "int look(3)", "long bases(2)", "int paints(2)", "long ways(2)", "int far(2)",
        "int kept(2)", "int walk(2)", "int has(1)", "int want(1)", "int clear(1)", "long sets(1)", "int rounds(0)",
        "int told(2)", "int things(0)", "int sheet(3)", "int lose(1)", "int lay(4)", "int get(3)", "int copy(5)",
        "int write(3)", "int count(1)", "long digest(0)");
    private static final Set<String> CONSTANTS = Set.of("NONE=-1", "BAD=-2", "NOT=-3", "FULL=-4");
    private static final String FORBIDDEN =
        "\\b(throw|throws|try|catch|synchronized|assert|package|native|volatile|protected|\\w+Exact|\\w+Exception"
        + "|System\\.(?!arraycopy)\\w+|Random|Thread|hashCode)\\b|->|::";

    private final Checks checks = new Checks();

    public static void main(String[] args) throws IOException, IllegalAccessException {
        FaceTest test = new FaceTest();
        test.methods();
        test.fields();
        test.constructors();
        test.nestedClasses();
        test.text(Files.readString(Path.of(args.length > 0 ? args[0] : ".", "src/main/java/CommitIndex.java")));
        test.checks.end();
    }

    private void methods() {
        checks.part("methods");
        checks.holds("the class is public and final",
            Modifier.isPublic(CommitIndex.class.getModifiers()) && Modifier.isFinal(CommitIndex.class.getModifiers()));
        Set<String> open = new TreeSet<>();
        Set<String> names = new TreeSet<>();
        for (Method method : CommitIndex.class.getDeclaredMethods()) {
            if (Modifier.isPrivate(method.getModifiers()) || method.isSynthetic()) continue;
            checks.holds(method + " is public", Modifier.isPublic(method.getModifiers()));
            checks.holds(method + " takes ints", Arrays.stream(method.getParameterTypes()).allMatch(t -> t == int.class));
            open.add(method.getReturnType() + " " + method.getName() + "(" + method.getParameterCount() + ")");
            names.add(method.getName());
        }
        checks.holds("the face is the document's: " + open, open.equals(FACE));
        for (Method method : CommitIndex.class.getDeclaredMethods()) {
            boolean hidden = Modifier.isPrivate(method.getModifiers());
            checks.holds(method + " has a name of its own", !hidden || !names.contains(method.getName()));
        }
    }

    private void fields() throws IllegalAccessException {
        checks.part("fields");
        Set<String> open = new TreeSet<>();
        for (Field field : CommitIndex.class.getDeclaredFields()) {
            int modifiers = field.getModifiers();
            checks.holds(field + " is final, if static", !Modifier.isStatic(modifiers) || Modifier.isFinal(modifiers));
            if (!Modifier.isPrivate(modifiers) && !field.isSynthetic()) open.add(field.getName() + "=" + field.getInt(null));
        }
        checks.holds("the constants are the document's: " + open, open.equals(CONSTANTS));
    }

    private void constructors() {
        checks.part("constructors");
        Constructor<?>[] all = CommitIndex.class.getDeclaredConstructors();
        checks.due("how many", all.length, 1);
        checks.due("parameters", all[0].getParameterCount(), 0);
        checks.holds("public", Modifier.isPublic(all[0].getModifiers()));
    }

    private void nestedClasses() {
        checks.part("classes inside");
        Class<?>[] all = CommitIndex.class.getDeclaredClasses();
        checks.holds("at most twelve classes", all.length < 12);
        for (Class<?> inside : all) {
            checks.holds(inside + " is static", Modifier.isStatic(inside.getModifiers()));
            checks.holds(inside + " is not public", !Modifier.isPublic(inside.getModifiers()));
            checks.holds(inside + " has at most twenty fields", inside.getDeclaredFields().length <= 20);
            for (Field field : inside.getDeclaredFields()) {
                checks.holds(field + " is not static", !Modifier.isStatic(field.getModifiers()));
            }
            for (Method method : inside.getDeclaredMethods()) {
                checks.holds(method + " takes at most seven", method.getParameterCount() <= 7);
            }
        }
    }

    private void text(String source) {
        checks.part("text");
        checks.holds("signs are 1 to 127", source.chars().allMatch(sign -> sign > 0 && sign < 128));
        String code = source.replaceAll("(?s)/\\*.*?\\*/", " ").replaceAll("//[^\n]*", " ");
        Matcher matcher = Pattern.compile(FORBIDDEN).matcher(code);
        while (matcher.find()) checks.holds("no " + matcher.group(), false);
    }
}
