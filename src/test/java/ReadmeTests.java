import java.io.ByteArrayOutputStream;
import java.io.File;
import java.io.IOException;
import java.io.PrintStream;
import java.net.URL;
import java.net.URLClassLoader;
import java.nio.file.Files;
import java.nio.file.Path;
import java.util.Map;
import java.util.TreeMap;
import java.util.TreeSet;
import java.util.regex.Matcher;
import java.util.regex.Pattern;
import java.util.stream.Stream;
import javax.tools.ToolProvider;

/** What README.md says: its program prints what stands below it, and its table of exceptions is the document's. */
final class ReadmeTests {
    private static final Path README = Path.of("README.md");
    private static final Path DOCUMENT = Path.of("../shared/DOC.md");
    private static final Path SOURCE = Path.of("src/main/java/FoodTruckRota.java");

    private ReadmeTests() {
    }

    static void run() {
        Check.test("the program in README.md prints what it says", ReadmeTests::program);
        Check.test("the exceptions in README.md are the document's", ReadmeTests::exceptions);
    }

    private static String read(Path path) {
        try {
            return Files.readString(path);
        } catch (IOException e) {
            throw new IllegalStateException("cannot read " + path, e);
        }
    }

    private static void program() {
        try {
            Path directory = Files.createTempDirectory("readme");
            Check.same("what Lunch prints", printed(directory), block("text"));
            remove(directory);
        } catch (IOException | ReflectiveOperationException e) {
            throw new IllegalStateException(e);
        }
    }

    private static String block(String kind) {
        Matcher block = Pattern.compile("(?s)```" + kind + "\n(.*?)```").matcher(read(README));
        Check.same("a block of " + kind, block.find(), true);
        return block.group(1);
    }

    private static String printed(Path directory) throws IOException, ReflectiveOperationException {
        Path program = directory.resolve("Lunch.java");
        Files.writeString(program, block("java"));
        int code = ToolProvider.getSystemJavaCompiler().run(null, null, null, "-d", directory.toString(),
                SOURCE.toString(), program.toString());
        Check.same("javac's exit code", code, 0);
        ByteArrayOutputStream bytes = new ByteArrayOutputStream();
        PrintStream usual = System.out;
        try (URLClassLoader loader = new URLClassLoader(new URL[] {directory.toUri().toURL()}, null)) {
            System.setOut(new PrintStream(bytes, true));
            loader.loadClass("Lunch").getMethod("main", String[].class).invoke(null, (Object) new String[0]);
        } finally {
            System.setOut(usual);
        }
        return bytes.toString().replace(System.lineSeparator(), "\n");
    }

    private static void remove(Path directory) throws IOException {
        try (Stream<Path> files = Files.walk(directory)) {
            files.sorted((one, other) -> other.compareTo(one)).map(Path::toFile).forEach(File::delete);
        }
    }

    private static void exceptions() {
        Map<String, String> rows = rows();
        TreeSet<String> declared = new TreeSet<>();
        Matcher method = Pattern.compile("(?m)^    public \\w+ (\\w+)\\((.*?)\\) throws (.*);$").matcher(read(DOCUMENT));
        while (method.find()) {
            for (String kind : method.group(3).split(", ")) {
                declared.add(kind + " " + method.group(1));
                boolean isNamed = rows.getOrDefault(kind, "").contains("`" + method.group(1) + "`");
                Check.same(method.group(1) + " throws " + kind, isNamed || takesOne(kind, method.group(2)), true);
            }
        }
        for (String kind : rows.keySet()) {
            Matcher name = Pattern.compile("`(\\w+)`").matcher(rows.get(kind));
            while (name.find()) {
                Check.same(name.group(1) + " may throw " + kind, declared.contains(kind + " " + name.group(1)), true);
            }
        }
        Check.same("exceptions of the face", declared.size() > 50, true);
    }

    /** Whether the table's words on methods that take a truck, a dish, a pitch or a weekday stand for it. */
    private static boolean takesOne(String kind, String parameters) {
        return kind.equals("IndexOutOfBoundsException") && parameters.matches(".*int (truck|dish|pitch).*")
                || kind.equals("IllegalArgumentException") && parameters.contains("int weekday");
    }

    /** The methods that the table names beside each exception. */
    private static Map<String, String> rows() {
        Map<String, String> rows = new TreeMap<>();
        String kind = "";
        Matcher row = Pattern.compile("(?m)^\\| (?:`(\\w+)`)? ?\\| (.*?) \\|").matcher(read(README));
        while (row.find()) {
            kind = row.group(1) == null ? kind : row.group(1);
            rows.merge(kind, row.group(2), (one, other) -> one + " " + other);
        }
        Check.same("exceptions in README.md", rows.size(), 6);
        return rows;
    }
}
