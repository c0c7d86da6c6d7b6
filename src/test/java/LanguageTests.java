import java.io.IOException;
import java.nio.file.Files;
import java.nio.file.Path;
import java.util.ArrayList;
import java.util.HashSet;
import java.util.List;
import java.util.Set;
import java.util.regex.Matcher;
import java.util.regex.Pattern;

/** Those rules of LANGUAGE.md that can be seen in the source's text alone. */
public final class LanguageTests {
    private static final Path SOURCE = Path.of("src/main/java/CarrierPool.java");
    private static final String[] FORBIDDEN = {
        "\\b(throw|throws|try|catch|finally|synchronized|assert|volatile|native)\\b",
        "->", "::", "\\bvar\\b", "\\bObject\\b", "Exact\\b", "\\b(hashCode|toString)\\b",
        "\\bpackage\\b", "\\bprotected\\b", "\\bSystem\\.(?!arraycopy\\b)", "\\bnew \\w+\\([^)]*\\) \\{",
        "\\bstatic \\{", "@"
    };
    private static final Pattern METHOD = Pattern.compile(
            "^( +)((?:public |private |static |final )*)(?:[\\w\\[\\]<>]+ )?(\\w+)\\(([^)]*)\\) \\{$");

    /** The constructor and the document's 29 methods. */
    private static final int FACE = 30;

    private static int wrong = 0;

    private static void fault(String rule, String what) {
        wrong++;
        System.out.println(rule + ": " + what);
    }

    private static String withoutComments(String text) {
        return text.replaceAll("(?s)/\\*.*?\\*/", "").replaceAll("//[^\n]*", "");
    }

    private static void words(String code) {
        for (String pattern : FORBIDDEN) {
            Matcher m = Pattern.compile(pattern).matcher(code);
            if (m.find()) {
                fault("not in the language", m.group());
            }
        }
        Matcher imports = Pattern.compile("import ([\\w.]+);").matcher(code);
        while (imports.find()) {
            if (!imports.group(1).matches("java\\.util\\.(Arrays|ArrayList|List)")) {
                fault("rule 4", imports.group());
            }
        }
    }

    private static void fields(String code) {
        Matcher statics = Pattern.compile("(?m)^ +(?:private )?static (?!final )[^(]*[;=]").matcher(code);
        while (statics.find()) {
            fault("rule 5", statics.group());
        }
        Matcher open = Pattern.compile("(?m)^    (?!private |public |\\}| )\\S.*").matcher(code);
        while (open.find()) {
            fault("rule 1", open.group());
        }
    }

    private static void methods(String code) {
        String[] lines = code.split("\n");
        Set<String> face = new HashSet<>();
        List<String> others = new ArrayList<>();
        for (int i = 0; i < lines.length; i++) {
            Matcher m = METHOD.matcher(lines[i]);
            if (!m.matches() || m.group(1).length() > 8 || m.group(3).matches("if|for|while|switch")) {
                continue;
            }
            (m.group(2).contains("public") ? face : others).add(m.group(3));
            int length = 1;
            while (i + length < lines.length && !lines[i + length].equals(m.group(1) + "}")) {
                length++;
            }
            if (length > 60) {
                fault("rule 11", m.group(3) + " has " + length + " lines");
            }
            if (m.group(4).split(",").length > 7) {
                fault("rule 11", m.group(3) + " has more than seven parameters");
            }
        }
        for (String name : others) {
            if (face.contains(name)) {
                fault("rule 1", "a method of the name " + name);
            }
        }
        if (face.size() != FACE) {
            fault("rule 1", "the face has " + face.size() + " names");
        }
    }

    public static void main(String[] args) throws IOException {
        String code = withoutComments(Files.readString(SOURCE));
        words(code);
        fields(code);
        methods(code);
        System.out.println("LanguageTests: " + wrong + " faults");
        if (wrong != 0) {
            System.exit(1);
        }
    }
}
