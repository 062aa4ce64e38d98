import java.io.IOException;
import java.nio.file.Files;
import java.nio.file.Path;
import java.util.ArrayList;
import java.util.List;
import java.util.Set;
import java.util.regex.Matcher;
import java.util.regex.Pattern;

/** The rules of LANGUAGE.md that can be seen from the text of the program. */
public final class LanguageTest {
    private static final Checks CHECKS = new Checks("LanguageTest");
    private static final int LONGEST = 60;
    private static final int MOST_PARAMETERS = 7;

    /** Rule 3 and 4: no types but these, and the program's own classes. */
    private static final Set<String> TYPES = Set.of("BundleMill", "Machine", "Block", "Plan",
            "Graph", "ListScheduler", "ModuloScheduler", "Outcome", "Math",
            "IllegalStateException", "IllegalArgumentException", "IndexOutOfBoundsException",
            "UnsupportedOperationException", "NoSuchElementException");

    public static void main(String[] args) throws IOException {
        String text = Files.readString(Path.of("src/main/java/BundleMill.java"));
        String code = text.replaceAll("(?s)/\\*.*?\\*/", "").replaceAll("//.*", "");
        words(code);
        types(code);
        library(code);
        constructors(code);
        methods(code.split("\n"));
        CHECKS.end();
    }

    private static boolean has(String code, String pattern) {
        return Pattern.compile(pattern).matcher(code).find();
    }

    /** What rules 1, 2, 4, 6 and 13 rule out. */
    private static void words(String code) {
        for (String word : List.of("package", "finally", "synchronized", "assert", "volatile",
                "protected", "instanceof", "native", "strictfp", "transient", "var")) {
            CHECKS.holds("no word " + word, !has(code, "\\b" + word + "\\b"));
        }
        for (String sign : List.of("->", "::", "try (", "\"", "'", "System", "Thread", "Random",
                "Exact(", "NaN", "@")) {
            CHECKS.holds("no " + sign, !code.contains(sign));
        }
        CHECKS.same("imports", lines(code, "^import .*").toString(),
                "[import java.util.NoSuchElementException;]");
    }

    private static List<String> lines(String code, String pattern) {
        List<String> all = new ArrayList<>();
        Matcher found = Pattern.compile(pattern, Pattern.MULTILINE).matcher(code);
        while (found.find()) {
            all.add(found.group());
        }
        return all;
    }

    private static void types(String code) {
        for (String name : lines(code.replaceAll("(?m)^import .*", ""),
                "\\b[A-Z][a-z][A-Za-z]*\\b")) {
            CHECKS.holds("type " + name, TYPES.contains(name));
        }
    }

    /** Rule 4: only these functions of Math; rule 6: exceptions as the rule has them. */
    private static void library(String code) {
        for (String call : lines(code, "Math\\.\\w+")) {
            CHECKS.holds(call, Set.of("Math.max", "Math.min", "Math.abs").contains(call));
        }
        for (String thrown : lines(code, "\\bthrow .*")) {
            CHECKS.holds(thrown, thrown.matches("throw new \\w+Exception\\(\\);"));
        }
    }

    /** Rule 5: a static field is a constant with its value; rule 6: no throw in a constructor. */
    private static void constructors(String code) {
        CHECKS.holds("no static block", !has(code, "static\\s*\\{"));
        for (String line : lines(code, "^ +(private |public )?static final [^(\n]*$")) {
            if (!line.contains("class")) {
                CHECKS.holds(line.trim(), line.matches(".* int [A-Z_]+ = [^;]+;"));
            }
        }
    }

    /** Rule 11. */
    private static void methods(String[] lines) {
        int start = -1;
        int indent = 0;
        for (int k = 0; k < lines.length; k++) {
            String line = lines[k];
            int spaces = line.length() - line.stripLeading().length();
            boolean head = line.matches(" +[a-zA-Z\\[\\] ]+\\([^;]*") && !line.contains(" new ")
                    && !line.trim().matches("(if|for|while|switch|return|throw|else)\\b.*");
            if (head && start < 0 && (spaces == 4 || spaces == 8)) {
                start = k;
                indent = spaces;
            }
            if (start >= 0 && spaces == indent && line.trim().equals("}")) {
                CHECKS.holds("length of " + lines[start].trim(), k - start + 1 <= LONGEST);
                start = -1;
            }
        }
        String all = String.join("\n", lines);
        String method = "^ +[a-zA-Z\\[\\] ]+ \\w+\\([^()]*\\)\\s*(throws[^{]*)?\\{";
        for (String head : lines(all, method)) {
            String inside = head.substring(head.indexOf('(') + 1, head.indexOf(')'));
            CHECKS.holds("parameters of " + head.trim(),
                    inside.split(",").length <= MOST_PARAMETERS);
        }
    }
}
