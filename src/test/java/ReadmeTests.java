import java.io.IOException;
import java.io.UncheckedIOException;
import java.lang.reflect.Method;
import java.lang.reflect.Modifier;
import java.net.URL;
import java.net.URLClassLoader;
import java.nio.file.Files;
import java.nio.file.Path;
import java.util.ArrayList;
import java.util.Comparator;
import java.util.HashSet;
import java.util.List;
import java.util.Set;
import java.util.TreeSet;
import java.util.regex.Matcher;
import java.util.regex.Pattern;
import java.util.stream.Stream;
import javax.tools.JavaCompiler;
import javax.tools.ToolProvider;

/**
 * What README.md shows: its pieces of Java, joined to one run, compile and answer what stands behind
 * each call; every call of the class is among them; its table has every call as the class has it,
 * with the refusals that the document names; and its list of tests has every test.
 */
public final class ReadmeTests {
    private static final Path README = Path.of("README.md");
    private static final Path DOCUMENT = Path.of("../shared/DOC.md");
    private static final Path TESTS = Path.of("src/test/java");
    private static final int CALLS = 512;

    private static final Pattern PIECE = Pattern.compile("(?ms)^```java\n(.*?)^```$");
    private static final Pattern MAKING = Pattern.compile("CarrierPool \\w+ = new CarrierPool\\(\\);");
    private static final Pattern CALL = Pattern.compile(
            "((?:int|long|boolean) (\\w+) = )?(\\w+\\.(\\w+)\\([^;]*\\)); +// (-?\\d+|true|false)(?:: .*)?");
    private static final Pattern ROW = Pattern.compile(
            "(?m)^\\| `(\\w+) (\\w+)\\(([^)]*)\\)` \\| [^|]+ \\| ([^|]*)\\|$");

    private static int wrong = 0;

    private record Shown(String call, String name, String answer) {}

    private static void fault(String words) {
        wrong++;
        System.out.println("README.md: " + words);
    }

    /** The shown calls in order; the statements that make them are written to the source. */
    private static List<Shown> shownCalls(String readme, StringBuilder source) {
        List<Shown> calls = new ArrayList<>();
        Matcher pieces = PIECE.matcher(readme);
        while (pieces.find()) {
            for (String line : pieces.group(1).split("\n")) {
                Matcher call = CALL.matcher(line);
                if (call.matches()) {
                    calls.add(new Shown(call.group(3), call.group(4), call.group(5)));
                    source.append(statement(call));
                } else if (MAKING.matcher(line).matches()) {
                    source.append(line).append('\n');
                } else if (!line.isBlank()) {
                    fault("a line without a call and its answer: " + line);
                }
            }
        }
        return calls;
    }

    private static String statement(Matcher call) {
        if (call.group(1) == null) {
            return "got.add(" + call.group(3) + ");\n";
        }
        return call.group(1) + call.group(3) + ";\ngot.add(" + call.group(2) + ");\n";
    }

    private static String programOf(CharSequence statements) {
        return "public final class ReadmeRun {\n"
                + "public static void run(java.util.List<Object> got) {\n" + statements + "}\n}\n";
    }

    private static List<Object> answersOf(String program) throws IOException {
        List<Object> got = new ArrayList<>();
        Path out = Files.createTempDirectory("readme");
        try {
            Path file = out.resolve("ReadmeRun.java");
            Files.writeString(file, program);
            JavaCompiler javac = ToolProvider.getSystemJavaCompiler();
            String classes = System.getProperty("java.class.path");
            if (javac == null) {
                fault("no compiler to try its pieces with");
            } else if (javac.run(null, null, null, "-cp", classes, "-d", out.toString(),
                    file.toString()) != 0) {
                fault("its pieces do not compile");
            } else {
                runIn(out, got);
            }
        } finally {
            remove(out);
        }
        return got;
    }

    private static void runIn(Path out, List<Object> got) throws IOException {
        URL[] places = {out.toUri().toURL()};
        try (URLClassLoader loader = new URLClassLoader(places, ReadmeTests.class.getClassLoader())) {
            loader.loadClass("ReadmeRun").getMethod("run", List.class).invoke(null, got);
        } catch (ReflectiveOperationException thrown) {
            fault("its pieces do not run: " + thrown + ", " + thrown.getCause());
        }
    }

    private static void remove(Path directory) throws IOException {
        try (Stream<Path> files = Files.walk(directory)) {
            files.sorted(Comparator.reverseOrder()).forEach(ReadmeTests::removeOne);
        }
    }

    private static void removeOne(Path file) {
        try {
            Files.delete(file);
        } catch (IOException thrown) {
            throw new UncheckedIOException(thrown);
        }
    }

    private static void compareAnswers(List<Shown> calls, List<Object> got) {
        if (got.size() != calls.size()) {
            fault("shows " + calls.size() + " calls, " + got.size() + " answered");
            return;
        }
        for (int i = 0; i < got.size(); i++) {
            Shown one = calls.get(i);
            if (!String.valueOf(got.get(i)).equals(one.answer())) {
                fault(one.call() + " answered " + got.get(i) + ", shown is " + one.answer());
            }
        }
    }

    private static Set<String> faceOfClass() {
        Set<String> face = new TreeSet<>();
        for (Method m : CarrierPool.class.getDeclaredMethods()) {
            if (Modifier.isPublic(m.getModifiers())) {
                List<String> types = new ArrayList<>();
                for (Class<?> type : m.getParameterTypes()) {
                    types.add(type.getName());
                }
                face.add(m.getReturnType().getName() + " " + m.getName() + types);
            }
        }
        return face;
    }

    private static Set<String> namesOfClass() {
        Set<String> names = new TreeSet<>();
        for (String one : faceOfClass()) {
            names.add(one.substring(one.indexOf(' ') + 1, one.indexOf('[')));
        }
        return names;
    }

    private static void allAreShown(List<Shown> calls) {
        Set<String> missing = namesOfClass();
        for (Shown one : calls) {
            missing.remove(one.name());
        }
        if (!missing.isEmpty()) {
            fault("shows no call of " + missing);
        }
        if (calls.isEmpty() || calls.size() > CALLS) {
            fault("shows " + calls.size() + " calls of one object");
        }
    }

    private static void tableIsTheFace(String readme) {
        Set<String> rows = new TreeSet<>();
        Matcher row = ROW.matcher(readme);
        while (row.find()) {
            List<String> types = new ArrayList<>();
            for (String parameter : row.group(3).isEmpty() ? new String[0] : row.group(3).split(", ")) {
                types.add(parameter.split(" ")[0]);
            }
            rows.add(row.group(1) + " " + row.group(2) + types);
        }
        if (!rows.equals(faceOfClass())) {
            fault("its table has " + rows + ", the class " + faceOfClass());
        }
    }

    // The promises name nothing else by a number from -1 to -6, so that these are the refusals.
    private static String refusalsInDocument(String document, String name) {
        Matcher promise = Pattern.compile("(?m)^`\\w+ " + name + "\\([^`]*`: (.*)$").matcher(document);
        if (!promise.find()) {
            return "no promise of " + name;
        }
        StringBuilder told = new StringBuilder();
        Set<String> seen = new HashSet<>();
        Matcher number = Pattern.compile("-[1-6]\\b").matcher(promise.group(1));
        while (number.find()) {
            if (seen.add(number.group())) {
                told.append(number.group()).append(' ');
            }
        }
        if (promise.group(1).contains("Refused as told")) {
            told.append("* ");
        }
        return told.toString();
    }

    private static void tableHasTheRefusals(String readme, String document) {
        Matcher row = ROW.matcher(readme);
        while (row.find()) {
            String name = row.group(2);
            // count() names -1 .. -6 as what it counts; it refuses nothing.
            String due = name.equals("count") ? "" : refusalsInDocument(document, name);
            if (!row.group(4).equals(due)) {
                fault("its row of " + name + " has refusals " + row.group(4) + "due is " + due);
            }
        }
    }

    private static void namesTheTests(String readme) throws IOException {
        Set<String> there = new TreeSet<>();
        try (Stream<Path> files = Files.list(TESTS)) {
            files.forEach(file -> there.add(file.getFileName().toString().replace(".java", "")));
        }
        Set<String> named = new TreeSet<>();
        Matcher item = Pattern.compile("(?m)^- `(\\w+)`: ").matcher(readme);
        while (item.find()) {
            named.add(item.group(1));
        }
        if (!named.equals(there)) {
            fault("names the tests " + named + ", there are " + there);
        }
    }

    public static void main(String[] args) throws IOException {
        String readme = Files.readString(README);
        StringBuilder statements = new StringBuilder();
        List<Shown> calls = shownCalls(readme, statements);
        compareAnswers(calls, answersOf(programOf(statements)));
        allAreShown(calls);
        tableIsTheFace(readme);
        tableHasTheRefusals(readme, Files.readString(DOCUMENT));
        namesTheTests(readme);
        System.out.println("ReadmeTests: " + calls.size() + " calls shown, " + wrong + " wrong");
        if (wrong != 0) {
            System.exit(1);
        }
    }
}
