import java.io.IOException;
import java.lang.reflect.InvocationTargetException;
import java.lang.reflect.Method;
import java.lang.reflect.Modifier;
import java.net.URL;
import java.net.URLClassLoader;
import java.nio.file.Files;
import java.nio.file.Path;
import java.util.ArrayList;
import java.util.Comparator;
import java.util.List;
import java.util.Map;
import java.util.TreeMap;
import java.util.TreeSet;
import java.util.function.BiConsumer;
import java.util.regex.Matcher;
import java.util.regex.Pattern;
import java.util.stream.Collectors;
import java.util.stream.Stream;
import javax.tools.JavaCompiler;
import javax.tools.ToolProvider;

/** What README.md says of the class and of its tests is so. The project's folder is the argument. */
public final class ReadmeTest {
    private static final Pattern ANSWERED =
            Pattern.compile("(panel\\..*); +// (-?[0-9.]+|true|false|throws \\w+): .*");
    private static final Pattern WITHOUT_ANSWER = Pattern.compile("panel\\.(fit|need|wire|reading)\\(.*");
    private static final Pattern CALL_ROW = Pattern.compile("\\| (`\\w+\\(.*\\)`) \\| ([012]) \\| .*");
    private static final Pattern NAME = Pattern.compile("`(\\w+)\\(");
    private static final Pattern TEST_ROW = Pattern.compile("\\| `(\\w+Test)` \\| .*");
    private static final int[] CODES = {0, 1357, 2468};

    private final Due due = new Due("README.md: ");
    private final Path root;
    private final List<String> lines;
    private int answers = 0;

    private ReadmeTest(Path root) throws IOException {
        this.root = root;
        lines = Files.readAllLines(root.resolve("README.md"));
    }

    public static void main(String[] args) throws Exception {
        ReadmeTest test = new ReadmeTest(Path.of(args.length > 0 ? args[0] : "."));
        test.examplesAnswerAsTold();
        test.eachCallIsTold();
        test.eachTestIsTold();
        test.due.end();
    }

    private void examplesAnswerAsTold() throws Exception {
        List<List<String>> examples = examples();
        due.is("whether there are examples", !examples.isEmpty(), true);
        for (int i = 0; i < examples.size(); i++) {
            int before = answers;
            due.is("running example " + i, run(source(examples.get(i))), "to its end");
            due.is("whether example " + i + " has answers", answers > before, true);
        }
    }

    private List<List<String>> examples() {
        List<List<String>> examples = new ArrayList<>();
        List<String> open = null;
        for (String line : lines) {
            if (line.equals("```java")) {
                open = new ArrayList<>();
                examples.add(open);
            } else if (line.equals("```")) {
                open = null;
            } else if (open != null) {
                open.add(line);
            }
        }
        return examples;
    }

    /** A line with an answer hands its call and that answer on; the others stand as they are. */
    private String source(List<String> example) {
        StringBuilder text = new StringBuilder("public final class Example {\n");
        text.append("static void run(java.util.function.BiConsumer<String, Object> told) {\n");
        for (String line : example) {
            Matcher answered = ANSWERED.matcher(line);
            boolean compared = answered.matches();
            text.append(compared ? asked(answered.group(1), answered.group(2)) : line).append('\n');
            boolean untold = line.startsWith("panel.") && !compared && !WITHOUT_ANSWER.matcher(line).matches();
            due.is("whether this line lacks its answer: " + line, untold, false);
        }
        return text.append("}\n}\n").toString();
    }

    private static String asked(String call, String answer) {
        String told = quoted(call + " // " + answer);
        if (answer.startsWith("throws ")) {
            return "try { " + call + "; told.accept(" + told + ", \"nothing\"); } "
                    + "catch (RuntimeException e) { "
                    + "told.accept(" + told + ", \"throws \" + e.getClass().getSimpleName()); }";
        }
        return "told.accept(" + told + ", " + call + ");";
    }

    private static String quoted(String text) {
        return '"' + text.replace("\\", "\\\\").replace("\"", "\\\"") + '"';
    }

    /** Answers how far the example came. */
    private String run(String source) throws Exception {
        Path folder = Files.createTempDirectory("readme");
        try {
            Path file = Files.writeString(folder.resolve("Example.java"), source);
            JavaCompiler compiler = ToolProvider.getSystemJavaCompiler();
            int code = compiler.run(null, null, null, "--release", "17", "-cp",
                    System.getProperty("java.class.path"), "-d", folder.toString(), file.toString());
            return code != 0 ? "it does not compile" : runCompiled(folder);
        } finally {
            remove(folder);
        }
    }

    private String runCompiled(Path folder) throws Exception {
        BiConsumer<String, Object> told = this::compare;
        try (URLClassLoader loader = new URLClassLoader(new URL[] {folder.toUri().toURL()})) {
            Method run = loader.loadClass("Example").getDeclaredMethod("run", BiConsumer.class);
            run.setAccessible(true);
            run.invoke(null, told);
            return "to its end";
        } catch (InvocationTargetException e) {
            return "throws " + e.getCause().getClass().getSimpleName();
        }
    }

    private void compare(String told, Object got) {
        answers++;
        int mark = told.lastIndexOf(" // ");
        due.is(told.substring(0, mark), String.valueOf(got), told.substring(mark + 4));
    }

    private static void remove(Path folder) throws IOException {
        try (Stream<Path> files = Files.walk(folder)) {
            for (Path file : files.sorted(Comparator.reverseOrder()).collect(Collectors.toList())) {
                Files.delete(file);
            }
        }
    }

    /** Each method stands in the table once, with the level below which it is refused. */
    private void eachCallIsTold() throws Exception {
        Map<String, Integer> told = new TreeMap<>();
        for (String line : lines) {
            Matcher row = CALL_ROW.matcher(line);
            Matcher name = NAME.matcher(row.matches() ? row.group(1) : "");
            while (name.find()) {
                Integer level = Integer.valueOf(row.group(2));
                due.is("another row of " + name.group(1), told.put(name.group(1), level), null);
            }
        }
        Map<String, Integer> wanted = new TreeMap<>();
        for (Method method : FirePanel.class.getDeclaredMethods()) {
            if (Modifier.isPublic(method.getModifiers())) {
                wanted.put(method.getName(), wantedLevel(method));
            }
        }
        due.is("the calls and their levels", told, wanted);
    }

    private static int wantedLevel(Method method) throws Exception {
        int level = 0;
        while (level < CODES.length && refusedAt(level, method)) {
            level++;
        }
        return level;
    }

    private static boolean refusedAt(int level, Method method) throws Exception {
        FirePanel panel = new FirePanel();
        panel.key(CODES[level]);
        try {
            method.invoke(panel, arguments(method));
            return false;
        } catch (InvocationTargetException e) {
            return e.getCause() instanceof IllegalStateException;
        }
    }

    /** One is a place, kind, zone, number and so on that each call takes. */
    private static Object[] arguments(Method method) {
        return Stream.of(method.getParameterTypes()).map(ReadmeTest::one).toArray();
    }

    private static Object one(Class<?> type) {
        if (type == float.class) {
            return 1f;
        }
        if (type == char.class) {
            return '1';
        }
        if (type == boolean.class) {
            return true;
        }
        return 1;
    }

    private void eachTestIsTold() throws IOException {
        TreeSet<String> told = new TreeSet<>();
        for (String line : lines) {
            Matcher row = TEST_ROW.matcher(line);
            if (row.matches()) {
                told.add(row.group(1));
            }
        }
        try (Stream<Path> files = Files.list(root.resolve("src/test/java"))) {
            due.is("the tests", told, files.map(f -> f.getFileName().toString())
                    .filter(name -> name.endsWith("Test.java"))
                    .map(name -> name.substring(0, name.length() - ".java".length()))
                    .collect(Collectors.toCollection(TreeSet::new)));
        }
    }
}
