import java.lang.reflect.Constructor;
import java.lang.reflect.Field;
import java.lang.reflect.Method;
import java.lang.reflect.Modifier;
import java.util.Arrays;
import java.util.HashSet;
import java.util.Set;
import java.util.TreeSet;

/** The document's face, and the rules of LANGUAGE.md that can be seen from the class itself. */
public final class FaceTest {
    private static final Checks CHECKS = new Checks("FaceTest");
    private static final int OPEN = Modifier.PUBLIC | Modifier.PROTECTED;

    public static void main(String[] args) {
        face();
        inside();
        severalObjects();
        CHECKS.end();
    }

    private static String told(Method method) {
        Set<String> thrown = new TreeSet<>();
        for (Class<?> one : method.getExceptionTypes()) {
            thrown.add(one.getSimpleName());
        }
        return method.getReturnType() + " " + method.getName() + Arrays.toString(
                method.getParameterTypes()) + thrown;
    }

    private static void face() {
        Set<String> due = new TreeSet<>(Set.of(
                "void machine[int, int, int, int, int, int][IllegalArgumentException]",
                "int block[int, int, int, int][IllegalArgumentException, IllegalStateException]",
                "int operation[int, int, int, int, int, int]"
                        + "[IllegalArgumentException, IllegalStateException]",
                "void erase[][]", "void poke[int, int][]", "int peek[int][]"));
        due.addAll(Set.of(
                "int compile[][IllegalArgumentException, IllegalStateException, "
                        + "IndexOutOfBoundsException]",
                "int run[][IllegalStateException, UnsupportedOperationException]",
                "int result[int][IndexOutOfBoundsException]",
                "int output[int][IndexOutOfBoundsException]",
                "int variable[int][IndexOutOfBoundsException]"));
        String all = "[IllegalStateException, IndexOutOfBoundsException, NoSuchElementException]";
        due.addAll(Set.of("int shape[int, int]" + all, "int place[int, int, int]" + all,
                "long bundle[int, int, boolean]" + all,
                "double filled[int][IllegalStateException, NoSuchElementException]"));
        Set<String> got = new TreeSet<>();
        Set<String> names = new HashSet<>();
        for (Method method : BundleMill.class.getDeclaredMethods()) {
            if (!Modifier.isPrivate(method.getModifiers())) {
                got.add(told(method));
                names.add(method.getName());
            }
        }
        CHECKS.same("the face", got.toString(), due.toString());
        noFaceName(BundleMill.class, names);
        for (Class<?> one : BundleMill.class.getDeclaredClasses()) {
            noFaceName(one, names);
        }
        Constructor<?>[] constructors = BundleMill.class.getDeclaredConstructors();
        CHECKS.same("constructors", constructors.length, 1);
        CHECKS.holds("a public one", Modifier.isPublic(constructors[0].getModifiers()));
        for (Field field : BundleMill.class.getDeclaredFields()) {
            CHECKS.holds("field " + field, Modifier.isPrivate(field.getModifiers())
                    || field.getName().equals("NONE"));
        }
        CHECKS.holds("final", Modifier.isFinal(BundleMill.class.getModifiers()));
    }

    private static void noFaceName(Class<?> one, Set<String> names) {
        for (Method method : one.getDeclaredMethods()) {
            CHECKS.holds("a method of the face's name inside: " + method,
                    Modifier.isPublic(method.getModifiers()) || !names.contains(method.getName()));
        }
    }

    private static void inside() {
        Class<?>[] classes = BundleMill.class.getDeclaredClasses();
        CHECKS.holds("classes: " + classes.length, classes.length + 1 <= 12);
        for (Class<?> one : classes) {
            CHECKS.holds("static and not open: " + one, (one.getModifiers() & OPEN) == 0
                    && Modifier.isStatic(one.getModifiers()));
            fields(one);
        }
        fields(BundleMill.class);
    }

    private static void fields(Class<?> one) {
        int count = 0;
        for (Field field : one.getDeclaredFields()) {
            boolean fixed = Modifier.isStatic(field.getModifiers());
            count += fixed ? 0 : 1;
            CHECKS.holds("a static field is final: " + field,
                    !fixed || Modifier.isFinal(field.getModifiers()));
        }
        CHECKS.holds("fields of " + one + ": " + count, count <= 20);
    }

    /** What one object is told another one does not know. */
    private static void severalObjects() {
        BundleMill one = new BundleMill();
        BundleMill other = new BundleMill();
        one.poke(3, 33);
        one.machine(1, 1, 1, 1, 1, 1);
        one.block(0, 0, 0, 0);
        one.operation(9, 0, 0, 0, 0, 0);
        one.compile();
        one.run();
        CHECKS.same("memory", other.peek(3), 0);
        CHECKS.same("outputs", other.result(0), 0);
        CHECKS.refuses(Checks.STATE, "blocks", other::compile);
    }
}
