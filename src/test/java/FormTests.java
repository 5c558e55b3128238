import java.io.IOException;
import java.io.UncheckedIOException;
import java.lang.management.ManagementFactory;
import java.lang.reflect.Field;
import java.lang.reflect.Method;
import java.lang.reflect.Modifier;
import java.nio.file.Files;
import java.nio.file.Path;
import java.util.ArrayList;
import java.util.Arrays;
import java.util.List;
import java.util.TreeSet;
import java.util.regex.Matcher;
import java.util.regex.Pattern;

/** The face of the class, the form of its code, and the room that its calls take. */
final class FormTests {
    private static final Path SOURCE = Path.of("src/main/java/FoodTruckRota.java");
    private static final Path DOCUMENT = Path.of("../shared/DOC.md");

    private FormTests() {
    }

    static void run() {
        Check.test("the face is the document's", FormTests::face);
        Check.test("nothing but the face can be seen", FormTests::nothingElse);
        Check.test("the code keeps to LANGUAGE.md in what a search can tell", FormTests::language);
        Check.test("dear calls make next to no objects", FormTests::room);
    }

    private static String read(Path path) {
        try {
            return Files.readString(path);
        } catch (IOException e) {
            throw new UncheckedIOException(e);
        }
    }

    private static void face() {
        TreeSet<String> due = new TreeSet<>();
        Matcher line = Pattern.compile("(?m)^    public (\\w+) (\\w+)\\((.*?)\\)(?: throws (.*))?;$").matcher(read(DOCUMENT));
        while (line.find()) {
            String types = line.group(3).replaceAll(" \\w+(,|$)", "$1");
            due.add(line.group(1) + " " + line.group(2) + "(" + types + ")" + (line.group(4) == null ? "" : line.group(4)));
        }
        TreeSet<String> got = new TreeSet<>();
        for (Method method : FoodTruckRota.class.getDeclaredMethods()) {
            if (Modifier.isPublic(method.getModifiers())) {
                got.add(method.getReturnType() + " " + method.getName() + "(" + names(method.getParameterTypes()) + ")"
                        + names(method.getExceptionTypes()));
            }
        }
        Check.same("number of methods", due.size(), 48);
        Check.same("public methods", got, due);
    }

    private static String names(Class<?>[] types) {
        List<String> names = new ArrayList<>();
        for (Class<?> type : types) {
            names.add(type.getSimpleName());
        }
        return String.join(", ", names);
    }

    private static void nothingElse() {
        Class<?> face = FoodTruckRota.class;
        Check.same("final", Modifier.isFinal(face.getModifiers()), true);
        Check.same("constructors", face.getDeclaredConstructors().length, 1);
        TreeSet<String> open = new TreeSet<>();
        for (Method method : face.getMethods()) {
            open.add(method.getName());
        }
        for (Method method : face.getDeclaredMethods()) {
            boolean isFace = Modifier.isPublic(method.getModifiers());
            Check.same(method.getName(), isFace || Modifier.isPrivate(method.getModifiers()), true);
            Check.same(method.getName() + " bears a public name", !isFace && open.contains(method.getName()), false);
        }
        for (Field field : face.getDeclaredFields()) {
            Check.same(field.getName(), Modifier.isPrivate(field.getModifiers()), true);
        }
        for (Class<?> inside : face.getDeclaredClasses()) {
            Check.same(inside.getName(), Modifier.isStatic(inside.getModifiers()), true);
            for (Method method : inside.getDeclaredMethods()) {
                boolean isEnums = inside.isEnum() && Modifier.isStatic(method.getModifiers());
                Check.same(method.getName() + " bears a public name", !isEnums && open.contains(method.getName()), false);
            }
        }
    }

    private static void language() {
        String code = read(SOURCE).replaceAll("(?s)/\\*.*?\\*/", "").replaceAll("(?m)//.*$", "")
                .replaceAll("\"[^\"]*\"", "\"\"");
        String[] ruledOut = {"->", "::", "\\bcatch\\b", "\\btry\\b", "\\bfinally\\b", "\\bassert\\b", "\\bsynchronized\\b",
            "Exact\\(", "\\bequals\\(Object", "\\bhashCode\\b", "\\btoString\\b", "\\bpackage\\b", "\"\" *\\+", "\\+ *\"\"",
            "static *\\{", "\\bSystem\\.(?!arraycopy)", "static (?!final)(?:int|long|boolean|char|String)\\[?\\]? \\w+ *[=;]"};
        for (String pattern : ruledOut) {
            Check.same(pattern, Pattern.compile(pattern).matcher(code).find(), false);
        }
        TreeSet<String> imports = new TreeSet<>();
        Matcher line = Pattern.compile("import ([^;]*);").matcher(code);
        while (line.find()) {
            imports.add(line.group(1));
        }
        Check.same("imports", imports, new TreeSet<>(Arrays.asList("java.util.Arrays", "java.util.NoSuchElementException")));
    }

    private static void room() {
        com.sun.management.ThreadMXBean threads =
                (com.sun.management.ThreadMXBean) ManagementFactory.getThreadMXBean();
        spend(Rotas.stocked(5, 50));
        FoodTruckRota rota = Rotas.stocked(5, 50);
        long before = threads.getThreadAllocatedBytes(Thread.currentThread().getId());
        spend(rota);
        long after = threads.getThreadAllocatedBytes(Thread.currentThread().getId());
        Check.same("bytes " + (after - before) + " are few", after - before < 20_000, true);
    }

    private static void spend(FoodTruckRota rota) {
        for (int call = 0; call < 55; call++) {
            rota.advance(60);
            rota.servedWithin(60);
            rota.setWeather(3);
            rota.save();
            rota.undo();
            rota.renderTruck(0);
            rota.truckByCoins(4);
            rota.isConsistent();
        }
    }
}
