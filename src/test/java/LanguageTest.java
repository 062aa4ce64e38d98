import java.io.IOException;
import java.nio.file.Files;
import java.nio.file.Path;
import java.util.ArrayList;
import java.util.List;
import java.util.Map;
import java.util.Set;
import java.util.TreeMap;
import java.util.TreeSet;
import java.util.regex.Matcher;
import java.util.regex.Pattern;

/** The rules of LANGUAGE.md that can be seen from the text of the program. */
public final class LanguageTest {
    private static final Checks CHECKS = new Checks("LanguageTest");
    private static final int LONGEST = 60;
    private static final int MOST_PARAMETERS = 7;
    private static final int MOST_DEEP = 8;
    private static final int LEAST_METHODS = 60;

    /** Rule 3 and 4: no types but these, and the program's own classes. */
    private static final Set<String> TYPES = Set.of("BundleMill", "Machine", "Block", "Plan",
            "Graph", "ListScheduler", "ModuloScheduler", "Outcome", "Math",
            "IllegalStateException", "IllegalArgumentException", "IndexOutOfBoundsException",
            "UnsupportedOperationException", "NoSuchElementException");

    public static void main(String[] args) throws IOException {
        String text = Files.readString(Path.of("src/main/java/BundleMill.java"));
        String code = text.replaceAll("(?s)/\\*.*?\\*/", "").replaceAll("//.*", "");
        words(code);
        types(code);
        library(code);
        constructors(code);
        methods(code.split("\n"));
        loops(code);
        objects(code);
        depths(callsOf(code));
        CHECKS.end();
    }

    private static boolean has(String code, String pattern) {
        return Pattern.compile(pattern).matcher(code).find();
    }

    /** What rules 1, 2, 4, 6 and 13 rule out. */
    private static void words(String code) {
        for (String word : List.of("package", "finally", "synchronized", "assert", "volatile",
                "protected", "instanceof", "native", "strictfp", "transient", "var")) {
            CHECKS.holds("no word " + word, !has(code, "\\b" + word + "\\b"));
        }
        for (String sign : List.of("->", "::", "try (", "\"", "'", "System", "Thread", "Random",
                "Exact(", "NaN", "@")) {
            CHECKS.holds("no " + sign, !code.contains(sign));
        }
        CHECKS.same("imports", lines(code, "^import .*").toString(),
                "[import java.util.NoSuchElementException;]");
    }

    private static List<String> lines(String code, String pattern) {
        List<String> all = new ArrayList<>();
        Matcher found = Pattern.compile(pattern, Pattern.MULTILINE).matcher(code);
        while (found.find()) {
            all.add(found.group());
        }
        return all;
    }

    private static void types(String code) {
        for (String name : lines(code.replaceAll("(?m)^import .*", ""),
                "\\b[A-Z][a-z][A-Za-z]*\\b")) {
            CHECKS.holds("type " + name, TYPES.contains(name));
        }
    }

    /** Rule 4: only these functions of Math; rule 6: exceptions as the rule has them. */
    private static void library(String code) {
        for (String call : lines(code, "Math\\.\\w+")) {
            CHECKS.holds(call, Set.of("Math.max", "Math.min", "Math.abs").contains(call));
        }
        for (String thrown : lines(code, "\\bthrow .*")) {
            CHECKS.holds(thrown, thrown.matches("throw new \\w+Exception\\(\\);"));
        }
    }

    /** Rule 5: a static field is a constant with its value; rule 6: no throw in a constructor. */
    private static void constructors(String code) {
        CHECKS.holds("no static block", !has(code, "static\\s*\\{"));
        for (String line : lines(code, "^ +(private |public )?static final [^(\n]*$")) {
            if (!line.contains("class")) {
                CHECKS.holds(line.trim(), line.matches(".* int [A-Z_]+ = [^;]+;"));
            }
        }
    }

    /** Rule 11. */
    private static void methods(String[] lines) {
        int start = -1;
        int indent = 0;
        for (int k = 0; k < lines.length; k++) {
            String line = lines[k];
            int spaces = line.length() - line.stripLeading().length();
            boolean head = line.matches(" +[a-zA-Z\\[\\] ]+\\([^;]*") && !line.contains(" new ")
                    && !line.trim().matches("(if|for|while|switch|return|throw|else)\\b.*");
            if (head && start < 0 && (spaces == 4 || spaces == 8)) {
                start = k;
                indent = spaces;
            }
            if (start >= 0 && spaces == indent && line.trim().equals("}")) {
                CHECKS.holds("length of " + lines[start].trim(), k - start + 1 <= LONGEST);
                start = -1;
            }
        }
        String all = String.join("\n", lines);
        String method = "^ +[a-zA-Z\\[\\] ]+ \\w+\\([^()]*\\)\\s*(throws[^{]*)?\\{";
        for (String head : lines(all, method)) {
            String inside = head.substring(head.indexOf('(') + 1, head.indexOf(')'));
            CHECKS.holds("parameters of " + head.trim(),
                    inside.split(",").length <= MOST_PARAMETERS);
        }
    }

    /** Rule 9: every loop is a for whose counter goes by one towards its bound. */
    private static void loops(String code) {
        CHECKS.holds("no while", !has(code, "\\b(while|do)\\b"));
        for (String head : lines(code, "\\bfor \\(.*")) {
            CHECKS.holds(head, head.matches(
                    "for \\(int (\\w+) = [^;]+; \\1 <=? [^;]+; \\1\\+\\+\\) \\{")
                    || head.matches("for \\(int (\\w+) = [^;]+; \\1 >= 0; \\1--\\) \\{"));
        }
    }

    /** Rule 12, and the room of all calls: objects are made with the object alone. */
    private static void objects(String code) {
        Matcher constructor = Pattern.compile("(?s)\n    public BundleMill\\(\\) \\{.*?\n    }\n")
                .matcher(code);
        CHECKS.holds("a constructor", constructor.find());
        String others = code.replace(constructor.group(), "");
        for (String line : lines(others, "^.*\\bnew\\b.*$")) {
            CHECKS.holds("made with the object: " + line.trim(),
                    line.matches(" +throw new \\w+\\(\\);")
                            || line.matches(" +final \\w+\\[] \\w+ = new \\w+\\[[^]]+];"));
        }
    }

    /** Rule 8 and 11: no recursion, and calls at most eight deep. */
    private static void depths(Map<String, Set<String>> called) {
        CHECKS.holds("methods: " + called.size(), called.size() > LEAST_METHODS);
        CHECKS.holds("compile calls others", depth(called, "compile", 0) > 2);
        for (String name : called.keySet()) {
            CHECKS.holds("the depth of " + name, depth(called, name, 0) <= MOST_DEEP);
        }
    }

    /** Which names a method calls; methods of one name count as one. */
    private static Map<String, Set<String>> callsOf(String code) {
        Map<String, Set<String>> called = new TreeMap<>();
        Matcher method = Pattern.compile("(?ms)^( {4}| {8})[a-z][\\w \\[\\]]* (\\w+)\\([^()]*\\)"
                + "\\s*(?:throws[^{]*)?\\{$(.*?)^\\1}$").matcher(code);
        while (method.find()) {
            Set<String> names = called.computeIfAbsent(method.group(2), key -> new TreeSet<>());
            for (String call : lines(method.group(3), "\\b[a-z]\\w*(?=\\()")) {
                names.add(call);
            }
        }
        return called;
    }

    /** How many calls stand open at once, more than MOST_DEEP with recursion. */
    private static int depth(Map<String, Set<String>> called, String name, int above) {
        int most = 0;
        if (above <= MOST_DEEP) {
            for (String other : called.getOrDefault(name, Set.of())) {
                most = Math.max(most, depth(called, other, above + 1));
            }
        }
        return most + 1;
    }
}
