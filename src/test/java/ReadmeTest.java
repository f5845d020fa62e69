import java.io.ByteArrayOutputStream;
import java.io.IOException;
import java.io.PrintStream;
import java.lang.reflect.Method;
import java.net.URL;
import java.net.URLClassLoader;
import java.nio.file.Files;
import java.nio.file.Path;
import java.util.ArrayList;
import java.util.Arrays;
import java.util.List;
import java.util.Set;
import java.util.TreeSet;
import javax.tools.ToolProvider;

/** README.md: its program prints what it says, and its table of calls is the document's face. */
public final class ReadmeTest {
    private static final Path README = Path.of("README.md");
    private static final Path DOCUMENT = Path.of("../shared/DOC.md");
    private static final Path BUILD = Path.of("build/readme");

    public static void main(String[] args) throws Exception {
        Check.promise("README.md");
        String page = Files.readString(README);
        String printed = outputOf(block(page, "java"));
        Check.due(block(page, "text"), "the program", () -> printed);
        Check.due(callsOfDocument(), "the calls of its table", () -> callsOfTable(page));
        Check.due(exceptionsOfClass(), "the exceptions of its table", () -> exceptionsOfTable(page));
        Check.due(true, "it says how the tests are run", () -> page.contains("\n    .ci/run\n"));
        nameEachTest(page);
        Check.end();
    }

    /** What stands in the page between ```kind and the next ```. */
    private static String block(String page, String kind) {
        String head = "```" + kind + "\n";
        int start = page.indexOf(head) + head.length();
        return page.substring(start, page.indexOf("```", start));
    }

    private static String outputOf(String program) throws Exception {
        compile(program);
        PrintStream before = System.out;
        ByteArrayOutputStream caught = new ByteArrayOutputStream();
        try (URLClassLoader loader = new URLClassLoader(new URL[] {BUILD.toUri().toURL()})) {
            Method main = loader.loadClass("Example").getMethod("main", String[].class);
            System.setOut(new PrintStream(caught, true));
            main.invoke(null, (Object) new String[0]);
        } finally {
            System.setOut(before);
        }
        return caught.toString().replace(System.lineSeparator(), "\n");
    }

    private static void compile(String program) throws IOException {
        Files.createDirectories(BUILD);
        Path file = BUILD.resolve("Example.java");
        Files.writeString(file, program);
        int result = ToolProvider.getSystemJavaCompiler().run(null, null, null, "--release", "17",
                "-cp", System.getProperty("java.class.path"), "-d", BUILD.toString(), file.toString());
        Check.due(0, "compiling the program", () -> result);
    }

    /** The calls of the document's face, as "int addGood(int parent)". */
    private static List<String> callsOfDocument() throws IOException {
        List<String> calls = new ArrayList<>();
        for (String line : Files.readAllLines(DOCUMENT)) {
            if (line.startsWith("    public ") && !line.startsWith("    public ShopHub(")) {
                calls.add(line.substring("    public ".length(), line.indexOf(')') + 1));
            }
        }
        return calls;
    }

    private static List<String> callsOfTable(String page) {
        List<String> calls = new ArrayList<>();
        for (String[] cells : rowsOfCalls(page)) {
            calls.add(cells[0]);
        }
        return calls;
    }

    private static Set<String> exceptionsOfClass() {
        Set<String> found = new TreeSet<>();
        for (Method method : ShopHub.class.getMethods()) {
            if (method.getDeclaringClass() == ShopHub.class) {
                Set<String> names = new TreeSet<>();
                for (Class<?> kind : method.getExceptionTypes()) {
                    names.add(kind.getSimpleName());
                }
                found.add(method.getName() + names);
            }
        }
        return found;
    }

    private static Set<String> exceptionsOfTable(String page) {
        String[] kinds = {"IndexOutOfBoundsException", "IllegalArgumentException", "IllegalStateException"};
        Set<String> found = new TreeSet<>();
        for (String[] cells : rowsOfCalls(page)) {
            Set<String> names = new TreeSet<>();
            for (int kind = 0; kind < kinds.length; kind++) {
                if (!cells[kind + 2].equals("-")) {
                    names.add(kinds[kind]);
                }
            }
            found.add(cells[0].replaceAll("^\\w+ (\\w+)\\(.*", "$1") + names);
        }
        return found;
    }

    /** The cells of each row that begins with a call. */
    private static List<String[]> rowsOfCalls(String page) {
        List<String[]> rows = new ArrayList<>();
        for (String line : page.split("\n")) {
            if (line.matches("\\| `\\w+ \\w+\\(.*\\)` \\|.*\\|")) {
                String[] cells = line.substring(2, line.length() - 2).split(" \\| ");
                cells[0] = cells[0].replace("`", "");
                rows.add(Arrays.copyOf(cells, 5));
            }
        }
        return rows;
    }

    private static void nameEachTest(String page) throws IOException {
        try (var files = Files.newDirectoryStream(Path.of("src/test/java"), "*Test.java")) {
            for (Path file : files) {
                String name = file.getFileName().toString().replace(".java", "");
                Check.due(true, "it names " + name, () -> page.contains("`" + name + "`"));
            }
        }
    }
}
