import java.lang.invoke.MethodHandles;
import java.lang.reflect.InvocationTargetException;
import java.lang.reflect.Method;
import java.lang.reflect.Modifier;
import java.nio.file.Files;
import java.nio.file.Path;
import java.util.Comparator;
import java.util.List;
import java.util.TreeMap;
import java.util.TreeSet;
import java.util.regex.Matcher;
import java.util.regex.Pattern;
import java.util.stream.Stream;
import javax.tools.ToolProvider;

/** The calls in README.md answer and throw what stands behind them, and its tables tell what is thrown, and why. */
public final class ReadmeTest {
    /** A call, with its answer or the exception at the beginning of the comment. */
    private static final Pattern CALL =
            Pattern.compile("(survey\\.\\w+\\(.*\\)); +// (throws (\\w+)|true|false|-?[0-9.]+f?|'.').*");

    private static final Pattern NAME = Pattern.compile("`(\\w+)`");

    /** Just these stand in the row "what takes the number of a surveyor and is not in the row above". */
    private static final String BY_SURVEYOR = "what takes the number of a surveyor";

    private static List<String> readme;

    public static void main(String[] args) throws Exception {
        Check.in("README.md");
        readme = Files.readAllLines(Path.of("README.md"));
        Path folder = Files.createTempDirectory("readme");
        try {
            runExamples(folder);
        } finally {
            delete(folder);
        }
        namesEachCall();
        tellsWhatIsThrown();
        tellsTheReasons();
        namesEachTest();
        Check.end();
    }

    private static void runExamples(Path folder) throws Exception {
        StringBuilder program = new StringBuilder("import java.util.NoSuchElementException;\n"
                + "public final class Examples {\npublic static void run() {\n");
        boolean isExample = false;
        int calls = 0;
        int examples = 0;
        for (String line : readme) {
            if (line.equals("```java") || isExample && line.equals("```")) {
                isExample = !isExample;
                program.append(isExample ? "{\n" : "}\n");
                examples += isExample ? 1 : 0;
            } else if (isExample) {
                Matcher call = CALL.matcher(line);
                calls += call.matches() ? 1 : 0;
                Check.isTrue(call.matches() || !line.startsWith("survey."), "no answer can be read in: " + line);
                program.append(call.matches() ? checked(call) : line).append('\n');
            }
        }
        Check.is(2, examples);
        Check.isTrue(calls >= 20, "only " + calls + " calls are tried");
        Path file = folder.resolve("Examples.java");
        Files.writeString(file, program.append("}\n}\n"));
        int failed = ToolProvider.getSystemJavaCompiler().run(null, System.out, System.out,
                "-cp", System.getProperty("java.class.path"), "-d", folder.toString(), file.toString());
        Check.is(0, failed);
        if (failed == 0) {
            run(folder);
        }
    }

    private static String checked(Matcher call) {
        if (call.group(3) == null) {
            return "Check.is(" + call.group(2) + ", " + call.group(1) + ");";
        }
        return "Check.isThrown(" + call.group(3) + ".class, () -> " + call.group(1) + ");";
    }

    /** The class is defined beside this one, so that what is wrong in an example counts here. */
    private static void run(Path folder) throws Exception {
        byte[] compiled = Files.readAllBytes(folder.resolve("Examples.class"));
        try {
            MethodHandles.lookup().defineClass(compiled).getMethod("run").invoke(null);
        } catch (InvocationTargetException thrown) {
            Check.fail("threw " + thrown.getCause());
        }
    }

    private static void delete(Path folder) throws Exception {
        try (Stream<Path> paths = Files.walk(folder)) {
            for (Path path : paths.sorted(Comparator.reverseOrder()).toList()) {
                Files.delete(path);
            }
        }
    }

    private static void namesEachCall() {
        TreeSet<String> due = new TreeSet<>();
        for (Method method : face()) {
            due.add(method.getName());
        }
        TreeSet<String> got = new TreeSet<>();
        for (String row : rowsAfter("### Make an object")) {
            got.addAll(names(row));
        }
        Check.is(due, got);
    }

    private static void tellsWhatIsThrown() {
        TreeMap<String, TreeSet<String>> due = new TreeMap<>();
        TreeMap<String, TreeSet<String>> got = new TreeMap<>();
        TreeSet<String> bySurveyor = new TreeSet<>();
        for (Method method : face()) {
            for (Class<?> exception : method.getExceptionTypes()) {
                due.computeIfAbsent(exception.getSimpleName(), none -> new TreeSet<>()).add(method.getName());
            }
        }
        bySurveyor.addAll(due.get("IndexOutOfBoundsException"));
        bySurveyor.remove("character");
        String exception = "";
        for (String row : rowsAfter("### What is thrown")) {
            String[] cells = row.split("\\|");
            TreeSet<String> first = names(cells[1]);
            exception = first.isEmpty() ? exception : first.first();
            TreeSet<String> throwing = cells[2].contains(BY_SURVEYOR) ? bySurveyor : names(cells[2]);
            if (!exception.isEmpty()) {
                got.computeIfAbsent(exception, none -> new TreeSet<>()).addAll(throwing);
            }
        }
        Check.is(due, got);
    }

    private static void tellsTheReasons() throws Exception {
        String document = Files.readString(Path.of("../shared/DOC.md")).replaceAll("\\s+", " ");
        List<String> rows = rowsAfter("### How the reason is asked for");
        Check.is(2 + 8, rows.size());
        for (int reason = 1; reason < rows.size() - 1; reason++) {
            String[] cells = rows.get(reason + 1).split(" *\\| *");
            String detail = cells[3].equals("0") ? "" : ": " + cells[3];
            String told = " " + cells[1] + ", " + cells[2] + detail;
            Check.is(String.valueOf(reason), cells[1]);
            Check.isTrue(document.contains(told + ";") || document.contains(told + "."), told + " is not so");
        }
    }

    private static void namesEachTest() throws Exception {
        try (Stream<Path> files = Files.list(Path.of("src/test/java"))) {
            for (Path path : files.toList()) {
                String name = path.getFileName().toString().replace(".java", "");
                Check.isTrue(!name.endsWith("Test") || String.join("\n", readme).contains("- `" + name + "`: "),
                        name + " is not told of");
            }
        }
    }

    private static List<Method> face() {
        return Stream.of(CanalMaps.class.getDeclaredMethods())
                .filter(method -> Modifier.isPublic(method.getModifiers())).toList();
    }

    /** The rows of the first table behind a heading. */
    private static List<String> rowsAfter(String heading) {
        return readme.stream().dropWhile(line -> !line.startsWith(heading))
                .dropWhile(line -> !line.startsWith("|")).takeWhile(line -> line.startsWith("|")).toList();
    }

    private static TreeSet<String> names(String cells) {
        TreeSet<String> names = new TreeSet<>();
        Matcher name = NAME.matcher(cells);
        while (name.find()) {
            names.add(name.group(1));
        }
        return names;
    }
}
