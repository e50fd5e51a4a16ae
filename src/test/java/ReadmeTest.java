import java.io.IOException;
import java.lang.reflect.Method;
import java.nio.file.Files;
import java.nio.file.Path;
import java.util.ArrayList;
import java.util.Arrays;
import java.util.List;
import java.util.Set;
import java.util.TreeSet;
import java.util.regex.Matcher;
import java.util.regex.Pattern;
import java.util.stream.Stream;

/** README.md says what is so: its calls answer as it tells, its table is the document's face, its commands run. */
public final class ReadmeTest {
    private static final String NEW_OBJECT = "CommitIndex index = new CommitIndex();";
    private static final Pattern CALL = Pattern.compile("index\\.(\\w+)\\((.*)\\); +// (-?\\d+): \\S.*");
    private static final Pattern ROW = Pattern.compile("(?m)^\\| `((?:int|long) \\w+\\([a-z, ]*\\))` \\| \\S.* \\|$");
    private static final Pattern FACE = Pattern.compile("(?m)^    public ((?:int|long) \\w+\\([a-z, ]*\\));$");
    private static final Pattern CONSTANT = Pattern.compile("`(BAD|NOT|FULL)` \\((-\\d)\\)");
    private static final Pattern TEST = Pattern.compile("`(\\w+Test)`");
    private static final Pattern PLACE = Pattern.compile("`((?:\\.\\./|src/)[\\w./]+)`");
    private static final String OUT = " out";

    private final Checks checks = new Checks();
    private final Path root;
    private final String text;

    private ReadmeTest(Path root) throws IOException {
        this.root = root;
        text = Files.readString(root.resolve("README.md"));
    }

    public static void main(String[] args) throws Exception {
        ReadmeTest test = new ReadmeTest(Path.of(args.length > 0 ? args[0] : "."));
        test.examples();
        test.table();
        test.constants();
        test.tests();
        test.places();
        test.commands();
        test.checks.end();
    }

    private List<String> blocks(String language) {
        List<String> all = new ArrayList<>();
        Matcher matcher = Pattern.compile("(?s)```" + language + "\n(.*?)```").matcher(text);
        while (matcher.find()) all.add(matcher.group(1));
        return all;
    }

    private static Set<String> named(Pattern pattern, String where) {
        Set<String> all = new TreeSet<>();
        Matcher matcher = pattern.matcher(where);
        while (matcher.find()) all.add(matcher.group(1));
        return all;
    }

    private void same(String what, Set<String> got, Set<String> want) {
        Set<String> missing = new TreeSet<>(want);
        missing.removeAll(got);
        Set<String> idle = new TreeSet<>(got);
        idle.removeAll(want);
        checks.holds(what + ": missing " + missing + ", too many " + idle, missing.isEmpty() && idle.isEmpty());
    }

    // ---- what it tells of the class

    private void examples() throws ReflectiveOperationException {
        checks.part("examples");
        List<String> examples = blocks("java");
        checks.due("one of use, one of refusals", examples.size(), 2);
        for (String example : examples) {
            CommitIndex index = null;
            for (String line : example.split("\n")) {
                if (line.equals(NEW_OBJECT)) index = new CommitIndex();
                else callAnswers(index, line);
            }
        }
    }

    private void callAnswers(CommitIndex index, String line) throws ReflectiveOperationException {
        Matcher matcher = CALL.matcher(line);
        checks.holds("a call with its answer: " + line, matcher.matches() && index != null);
        if (!matcher.matches() || index == null) return;
        String[] words = matcher.group(2).isEmpty() ? new String[0] : matcher.group(2).split(", ");
        Object[] arguments = new Object[words.length];
        for (int i = 0; i < words.length; i++) {
            arguments[i] = words[i].equals("CommitIndex.NONE") ? CommitIndex.NONE : Integer.parseInt(words[i]);
        }
        Class<?>[] types = new Class<?>[words.length];
        Arrays.fill(types, int.class);
        Method method = CommitIndex.class.getMethod(matcher.group(1), types);
        long answer = ((Number) method.invoke(index, arguments)).longValue();
        checks.due(line, answer, Long.parseLong(matcher.group(3)));
    }

    private void table() throws IOException {
        checks.part("table");
        String document = Files.readString(root.resolve("../shared/DOC.md"));
        Set<String> face = new TreeSet<>();
        for (String call : named(FACE, document)) face.add(call.replace("(int ", "(").replace(", int ", ", "));
        checks.due("calls of the document", face.size(), 30);
        same("rows", named(ROW, text), face);
    }

    private void constants() throws ReflectiveOperationException {
        checks.part("constants");
        Matcher matcher = CONSTANT.matcher(text);
        int met = 0;
        while (matcher.find()) {
            met++;
            int value = CommitIndex.class.getField(matcher.group(1)).getInt(null);
            checks.due(matcher.group(1), Long.parseLong(matcher.group(2)), value);
        }
        checks.due("BAD, NOT and FULL", met, 3);
    }

    // ---- what it tells of the tests

    private void tests() throws IOException {
        checks.part("tests");
        Set<String> there = new TreeSet<>();
        try (Stream<Path> files = Files.list(root.resolve("src/test/java"))) {
            for (Path file : files.toList()) {
                String name = file.getFileName().toString();
                if (name.endsWith("Test.java")) there.add(name.replace(".java", ""));
            }
        }
        same("tests named", named(TEST, text), there);
    }

    private void places() {
        checks.part("places");
        for (String place : named(PLACE, text)) checks.holds(place, Files.exists(root.resolve(place)));
        checks.holds(".ci/run can be run", Files.isExecutable(root.resolve(".ci/run")));
    }

    /** All but .ci/run, which runs this; what they make goes to a place of its own, and not to the project's. */
    private void commands() throws IOException, InterruptedException {
        checks.part("commands");
        List<String> shells = blocks("sh");
        checks.due("one for all tests, one for a test", shells.size(), 2);
        checks.holds("the first runs all", shells.size() == 2 && shells.get(0).equals(".ci/run\n"));
        Path out = Files.createTempDirectory("readme");
        for (String shell : shells) {
            if (shell.equals(".ci/run\n")) continue;
            for (String line : shell.split("\n")) checks.due(line, run(line.replace(OUT, " " + out)), 0);
        }
        remove(out);
    }

    private int run(String line) throws IOException, InterruptedException {
        ProcessBuilder builder = new ProcessBuilder(line.split(" ")).directory(root.toFile());
        return builder.redirectErrorStream(true).redirectOutput(ProcessBuilder.Redirect.DISCARD).start().waitFor();
    }

    private static void remove(Path out) throws IOException {
        try (Stream<Path> files = Files.list(out)) {
            for (Path file : files.toList()) Files.delete(file);
        }
        Files.delete(out);
    }
}
