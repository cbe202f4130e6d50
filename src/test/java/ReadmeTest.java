import java.io.ByteArrayOutputStream;
import java.io.IOException;
import java.io.PrintStream;
import java.lang.reflect.Method;
import java.lang.reflect.Modifier;
import java.net.URL;
import java.net.URLClassLoader;
import java.nio.file.Files;
import java.nio.file.Path;
import java.util.ArrayList;
import java.util.List;
import java.util.Set;
import java.util.TreeSet;
import java.util.regex.Matcher;
import java.util.regex.Pattern;
import java.util.stream.Collectors;
import java.util.stream.Stream;
import javax.tools.ToolProvider;

/** What README.md says is so: its example runs as it stands, its tables leave nothing out. */
public final class ReadmeTest {
    private static final Path FOLDER = Path.of("build/example");
    private static final String CLASS_FILE = "src/main/java/CarrierDesk.java";

    private static final Pattern EXAMPLE = Pattern.compile("(?s)```java\n(.*?)```");
    private static final Pattern COMMANDS = Pattern.compile("(?s)```sh\n(.*?)```");
    private static final Pattern ANSWER = Pattern.compile("(?m)// ([^:\n]+)(: .*)?$");
    private static final Pattern ASKED = Pattern.compile("desk\\.(\\w+)\\(");
    private static final Pattern CALL_ROW = Pattern.compile("(?m)^\\| `(\\w+)\\(([^)]*)\\)` \\|");
    private static final Pattern TEST_ROW = Pattern.compile("(?m)^\\| `(\\w+)` \\|");

    private static final Expect expect = new Expect("readme");

    public static void main(String[] args) throws IOException, ReflectiveOperationException {
        String page = Files.readString(Path.of("README.md"));
        List<String> examples = all(EXAMPLE, page);
        expect.same("examples", 1, examples.size());
        for (String example : examples) {
            exampleRuns(example);
            exampleAsksEachCall(example);
        }
        tableOfCalls(page);
        tableOfTests(page);
        commands(page);
        expect.end();
    }

    private static void exampleRuns(String example)
            throws IOException, ReflectiveOperationException {
        Files.createDirectories(FOLDER);
        Path file = Files.writeString(FOLDER.resolve("Example.java"), example);
        // As the page says; but the file stands in the folder too, not to litter the checkout.
        expect.same("javac's exit code", 0, ToolProvider.getSystemJavaCompiler().run(null, null,
                null, "-d", FOLDER.toString(), CLASS_FILE, file.toString()));
        List<String> due = all(ANSWER, example);
        expect.look("there are answers", "true", "" + (due.size() > 20));
        List<String> got = printed().lines().toList();
        expect.same("lines printed", due.size(), got.size());
        for (int i = 0; i < Math.min(due.size(), got.size()); i++) {
            expect.look("the answer " + i + " of the example", due.get(i), got.get(i));
        }
    }

    private static String printed() throws IOException, ReflectiveOperationException {
        URL[] folder = {FOLDER.toUri().toURL()};
        ByteArrayOutputStream bytes = new ByteArrayOutputStream();
        PrintStream before = System.out;
        System.setOut(new PrintStream(bytes, true));
        try (URLClassLoader loader = new URLClassLoader(folder,
                ClassLoader.getPlatformClassLoader())) {
            loader.loadClass("Example").getMethod("main", String[].class)
                    .invoke(null, (Object) new String[0]);
        } finally {
            System.setOut(before);
        }
        return bytes.toString();
    }

    private static void exampleAsksEachCall(String example) {
        Set<String> due = new TreeSet<>();
        for (Method method : face()) {
            due.add(method.getName());
        }
        expect.look("the calls of the example", due.toString(),
                new TreeSet<>(all(ASKED, example)).toString());
    }

    /** Each call stands in the table once, with as many parameters as it has. */
    private static void tableOfCalls(String page) {
        Set<String> due = new TreeSet<>();
        for (Method method : face()) {
            due.add(method.getName() + "/" + method.getParameterCount());
        }
        List<String> told = new ArrayList<>();
        Matcher row = CALL_ROW.matcher(page);
        while (row.find()) {
            String parameters = row.group(2);
            told.add(row.group(1) + "/"
                    + (parameters.isEmpty() ? 0 : parameters.split(", ").length));
        }
        expect.look("the table of calls", due.toString(), new TreeSet<>(told).toString());
        expect.same("its rows", due.size(), told.size());
    }

    private static void tableOfTests(String page) throws IOException {
        Set<String> due;
        try (Stream<Path> files = Files.walk(Path.of("src/test/java"))) {
            due = files.map(file -> file.getFileName().toString())
                    .filter(name -> name.endsWith("Test.java"))
                    .map(name -> name.replace(".java", ""))
                    .collect(Collectors.toCollection(TreeSet::new));
        }
        List<String> told = all(TEST_ROW, page);
        expect.look("the table of tests", due.toString(), new TreeSet<>(told).toString());
        expect.same("its rows", due.size(), told.size());
    }

    /** The commands are those of the example and of the tests, and name what is there. */
    private static void commands(String page) {
        expect.look("the commands", List.of(
                "javac -d " + FOLDER + " " + CLASS_FILE + " Example.java\n"
                + "java -cp " + FOLDER + " Example\n",
                ".ci/run\n", "java -cp build/own RatesTest\n").toString(),
                all(COMMANDS, page).toString());
        expect.look(".ci/run can be run", "true", "" + Files.isExecutable(Path.of(".ci/run")));
        expect.look("this test's own classes are in build/own", "true", ""
                + Files.exists(Path.of("build/own/ReadmeTest.class")));
    }

    private static List<Method> face() {
        return Stream.of(CarrierDesk.class.getDeclaredMethods())
                .filter(method -> Modifier.isPublic(method.getModifiers())).toList();
    }

    /** The first group of each match. */
    private static List<String> all(Pattern pattern, String text) {
        return pattern.matcher(text).results().map(match -> match.group(1)).toList();
    }
}
