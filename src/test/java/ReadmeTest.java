import java.io.IOException;
import java.lang.reflect.InvocationTargetException;
import java.lang.reflect.Method;
import java.nio.file.Files;
import java.nio.file.Path;
import java.util.regex.Matcher;
import java.util.regex.Pattern;

/** The example in README.md: each call answers the number that stands first behind it. */
public final class ReadmeTest {
    private static final Checks CHECKS = new Checks("ReadmeTest");
    private static final Pattern CALL = Pattern.compile(
            "mill\\.(\\w+)\\(([^()]*)\\);(?:\\s*// (\\S+?):?(?: .*)?)?");
    private static final int LEAST_ANSWERS = 15;

    public static void main(String[] args) throws IOException, IllegalAccessException {
        String text = Files.readString(Path.of("README.md"));
        String example = text.substring(text.indexOf("```java\n") + 8);
        BundleMill mill = new BundleMill();
        int answers = 0;
        for (String line : example.substring(0, example.indexOf("```")).split("\n")) {
            if (line.startsWith("mill.")) {
                answers += ask(mill, line) ? 1 : 0;
            } else {
                CHECKS.same("a line", line, "BundleMill mill = new BundleMill();");
            }
        }
        CHECKS.holds("answers: " + answers, answers >= LEAST_ANSWERS);
        CHECKS.end();
    }

    /** Whether the call answers something. */
    private static boolean ask(BundleMill mill, String line) throws IllegalAccessException {
        Matcher call = CALL.matcher(line);
        CHECKS.holds("a call: " + line, call.matches());
        Method method = method(call.group(1));
        Object[] arguments = arguments(call.group(2));
        try {
            Object answer = method.invoke(mill, arguments);
            if (answer != null) {
                CHECKS.same(line, String.valueOf(answer), String.valueOf(call.group(3)));
            }
            return answer != null;
        } catch (InvocationTargetException e) {
            CHECKS.holds(line + " throws " + e.getCause(), false);
            return false;
        }
    }

    private static Method method(String name) {
        for (Method one : BundleMill.class.getMethods()) {
            if (one.getName().equals(name)) {
                return one;
            }
        }
        throw new IllegalStateException(name);
    }

    private static Object[] arguments(String text) {
        if (text.isEmpty()) {
            return new Object[0];
        }
        String[] words = text.split(", ");
        Object[] all = new Object[words.length];
        for (int k = 0; k < all.length; k++) {
            boolean flag = words[k].equals("true") || words[k].equals("false");
            all[k] = flag ? (Object) words[k].equals("true") : Integer.parseInt(words[k]);
        }
        return all;
    }
}
