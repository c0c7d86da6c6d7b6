import java.io.IOException;
import java.lang.reflect.Constructor;
import java.lang.reflect.Field;
import java.lang.reflect.Method;
import java.lang.reflect.Modifier;
import java.nio.file.Files;
import java.nio.file.Path;
import java.util.ArrayList;
import java.util.HashMap;
import java.util.HashSet;
import java.util.List;
import java.util.Map;
import java.util.Set;
import java.util.TreeSet;
import java.util.regex.Matcher;
import java.util.regex.Pattern;

/** The document's face, and those rules of LANGUAGE.md that the source's text or the class shows. */
public final class LanguageTests {
    private static final Path SOURCE = Path.of("src/main/java/CarrierPool.java");
    private static final Path DOCUMENT = Path.of("../shared/DOC.md");
    private static final int MOST_DEEP = 8;
    private static final int MOST_CLASSES = 12;
    private static final int MOST_FIELDS = 20;
    private static final String[] FORBIDDEN = {
        "\\b(throw|throws|try|catch|finally|synchronized|assert|volatile|native)\\b",
        "->", "::", "\\bvar\\b", "\\bObject\\b", "Exact\\b", "\\b(hashCode|toString)\\b",
        "\\bpackage\\b", "\\bprotected\\b", "\\bSystem\\.(?!arraycopy\\b)", "\\bnew \\w+\\([^)]*\\) \\{",
        "\\bstatic \\{", "@"
    };
    private static final Pattern METHOD = Pattern.compile(
            "^( +)((?:public |private |static |final )*)(?:[\\w\\[\\]<>]+ )?(\\w+)\\(([^)]*)\\) \\{$");

    /** The constructor and the document's 29 methods. */
    private static final int FACE = 30;

    private static int wrong = 0;

    private static void fault(String rule, String what) {
        wrong++;
        System.out.println(rule + ": " + what);
    }

    private static String withoutComments(String text) {
        return text.replaceAll("(?s)/\\*.*?\\*/", "").replaceAll("//[^\n]*", "");
    }

    private static void words(String code) {
        for (String pattern : FORBIDDEN) {
            Matcher m = Pattern.compile(pattern).matcher(code);
            if (m.find()) {
                fault("not in the language", m.group());
            }
        }
        Matcher imports = Pattern.compile("import ([\\w.]+);").matcher(code);
        while (imports.find()) {
            if (!imports.group(1).matches("java\\.util\\.(Arrays|ArrayList|List)")) {
                fault("rule 4", imports.group());
            }
        }
    }

    private static void fields(String code) {
        Matcher statics = Pattern.compile("(?m)^ +(?:private )?static (?!final )[^(]*[;=]").matcher(code);
        while (statics.find()) {
            fault("rule 5", statics.group());
        }
        Matcher open = Pattern.compile("(?m)^    (?!private |public |\\}| )\\S.*").matcher(code);
        while (open.find()) {
            fault("rule 1", open.group());
        }
    }

    private static void methods(String code) {
        String[] lines = code.split("\n");
        Set<String> face = new HashSet<>();
        List<String> others = new ArrayList<>();
        for (int i = 0; i < lines.length; i++) {
            Matcher m = METHOD.matcher(lines[i]);
            if (!m.matches() || m.group(1).length() > 8 || m.group(3).matches("if|for|while|switch")) {
                continue;
            }
            (m.group(2).contains("public") ? face : others).add(m.group(3));
            int length = 1;
            while (i + length < lines.length && !lines[i + length].equals(m.group(1) + "}")) {
                length++;
            }
            if (length > 60) {
                fault("rule 11", m.group(3) + " has " + length + " lines");
            }
            if (m.group(4).split(",").length > 7) {
                fault("rule 11", m.group(3) + " has more than seven parameters");
            }
        }
        for (String name : others) {
            if (face.contains(name)) {
                fault("rule 1", "a method of the name " + name);
            }
        }
        if (face.size() != FACE) {
            fault("rule 1", "the face has " + face.size() + " names");
        }
    }

    private static Set<String> faceInDocument(String document) {
        Set<String> face = new TreeSet<>();
        Matcher m = Pattern.compile("(?m)^    public (?:(\\w+) )?(\\w+)\\(([^)]*)\\);$").matcher(document);
        while (m.find()) {
            List<String> types = new ArrayList<>();
            for (String parameter : m.group(3).isEmpty() ? new String[0] : m.group(3).split(", ")) {
                types.add(parameter.split(" ")[0]);
            }
            face.add((m.group(1) == null ? "" : m.group(1) + " ") + m.group(2) + types);
        }
        return face;
    }

    private static String typesOf(Class<?>[] parameters) {
        List<String> types = new ArrayList<>();
        for (Class<?> one : parameters) {
            types.add(one.getName());
        }
        return types.toString();
    }

    /** Whatever is not private: all of it must stand in the document. */
    private static Set<String> faceOfClass() {
        Set<String> face = new TreeSet<>();
        for (Constructor<?> c : CarrierPool.class.getDeclaredConstructors()) {
            face.add(open(c.getModifiers()) + "CarrierPool" + typesOf(c.getParameterTypes()));
        }
        for (Method m : CarrierPool.class.getDeclaredMethods()) {
            if (!Modifier.isPrivate(m.getModifiers())) {
                String type = m.getReturnType().getName();
                face.add(open(m.getModifiers()) + type + " " + m.getName() + typesOf(m.getParameterTypes()));
            }
        }
        for (Field f : CarrierPool.class.getDeclaredFields()) {
            if (!Modifier.isPrivate(f.getModifiers())) {
                face.add("the field " + f.getName());
            }
        }
        return face;
    }

    private static String open(int modifiers) {
        return modifiers == Modifier.PUBLIC ? "" : "(" + Modifier.toString(modifiers) + ") ";
    }

    private static void face(String document) {
        Set<String> due = faceInDocument(document);
        if (due.size() != FACE || !due.equals(faceOfClass())) {
            fault("rule 1", "the class has " + faceOfClass() + ", the document " + due);
        }
        int modifiers = CarrierPool.class.getModifiers();
        if (modifiers != (Modifier.PUBLIC | Modifier.FINAL)) {
            fault("rule 1", "the class is " + Modifier.toString(modifiers));
        }
    }

    private static void classes() {
        List<Class<?>> all = new ArrayList<>();
        all.add(CarrierPool.class);
        for (Class<?> one : CarrierPool.class.getDeclaredClasses()) {
            all.add(one);
            if (!Modifier.isStatic(one.getModifiers()) || one.getDeclaredClasses().length > 0) {
                fault("rule 2", one.getName());
            }
        }
        if (all.size() > MOST_CLASSES) {
            fault("rule 11", all.size() + " classes");
        }
        for (Class<?> one : all) {
            int fields = 0;
            for (Field f : one.getDeclaredFields()) {
                fields += Modifier.isStatic(f.getModifiers()) ? 0 : 1;
            }
            if (fields > MOST_FIELDS) {
                fault("rule 11", one.getName() + " has " + fields + " fields");
            }
        }
    }

    private static void library(String code) {
        Matcher m = Pattern.compile("\\b(Math|Integer|Long|Arrays|System|String|List)\\.(\\w+)")
                .matcher(code);
        while (m.find()) {
            boolean listed = switch (m.group(1)) {
                case "Arrays" -> m.group(2).matches("copyOf|copyOfRange|fill");
                case "System" -> m.group(2).equals("arraycopy");
                case "List" -> m.group(2).equals("of");
                case "String" -> false;
                default -> m.group(2).matches("compare|max|min|abs|bitCount|floorDiv|floorMod");
            };
            if (!listed && !code.startsWith("import java.util.", m.start() - 17)) {
                fault("rule 4", m.group());
            }
        }
    }

    /** Which names each method's lines call, by the methods' names. */
    private static Map<String, Set<String>> callsByName(String code) {
        Map<String, Set<String>> calls = new HashMap<>();
        Set<String> called = new HashSet<>();
        for (String line : code.split("\n")) {
            Matcher m = METHOD.matcher(line);
            if (m.matches() && m.group(1).length() <= 8 && !m.group(3).matches("if|for|while|switch")) {
                called = calls.computeIfAbsent(m.group(3), name -> new HashSet<>());
                continue;
            }
            Matcher call = Pattern.compile("\\b(\\w+)\\(").matcher(line);
            while (call.find()) {
                if (!call.group(1).matches("if|for|while|switch|return")) {
                    called.add(call.group(1));
                }
            }
        }
        return calls;
    }

    /** How many calls stand open at once, the library's among them; the class has no recursion. */
    private static int depth(String name, Map<String, Set<String>> calls, List<String> open) {
        if (open.contains(name)) {
            fault("rule 8", name + " calls itself by way of " + open);
            return 0;
        }
        open.add(name);
        int deepest = 0;
        for (String called : calls.getOrDefault(name, Set.of())) {
            deepest = Math.max(deepest, depth(called, calls, open));
        }
        open.remove(open.size() - 1);
        return deepest + 1;
    }

    private static void depths(String code) {
        Map<String, Set<String>> calls = callsByName(code);
        for (String name : calls.keySet()) {
            int deep = depth(name, calls, new ArrayList<>());
            if (deep > MOST_DEEP) {
                fault("rule 11", name + " goes " + deep + " calls deep");
            }
        }
    }

    public static void main(String[] args) throws IOException {
        String code = withoutComments(Files.readString(SOURCE));
        face(Files.readString(DOCUMENT));
        classes();
        library(code);
        depths(code);
        words(code);
        fields(code);
        methods(code);
        System.out.println("LanguageTests: " + wrong + " faults");
        if (wrong != 0) {
            System.exit(1);
        }
    }
}
