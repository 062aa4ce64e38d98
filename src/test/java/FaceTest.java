import java.lang.reflect.Constructor;
import java.lang.reflect.Field;
import java.lang.reflect.InvocationTargetException;
import java.lang.reflect.Method;
import java.lang.reflect.Modifier;
import java.util.Arrays;
import java.util.HashSet;
import java.util.Set;
import java.util.TreeSet;

/** The document's face, and the rules of LANGUAGE.md that can be seen from the class itself. */
public final class FaceTest {
    private static final Checks CHECKS = new Checks("FaceTest");
    private static final int OPEN = Modifier.PUBLIC | Modifier.PROTECTED;

    private static final int MOST_CALLS = 512;
    private static final int[] WILD = {Integer.MIN_VALUE, -1000, -64, -13, -12, -1, 3, 4, 5, 6, 7,
        9, 10, 11, 12, 13, 63, 64, 1000, Integer.MAX_VALUE};
    private static final Method[] FACE = publicMethods();

    public static void main(String[] args) throws IllegalAccessException {
        face();
        inside();
        anyArguments();
        CHECKS.end();
    }

    /** In an order that is always the same. */
    private static Method[] publicMethods() {
        Method[] all = BundleMill.class.getDeclaredMethods();
        Arrays.sort(all, (one, other) -> told(one).compareTo(told(other)));
        return Arrays.stream(all).filter(one -> Modifier.isPublic(one.getModifiers()))
                .toArray(Method[]::new);
    }

    private static String told(Method method) {
        Set<String> thrown = new TreeSet<>();
        for (Class<?> one : method.getExceptionTypes()) {
            thrown.add(one.getSimpleName());
        }
        return method.getReturnType() + " " + method.getName() + Arrays.toString(
                method.getParameterTypes()) + thrown;
    }

    private static void face() {
        Set<String> due = new TreeSet<>(Set.of(
                "void machine[int, int, int, int, int, int][IllegalArgumentException]",
                "int block[int, int, int, int][IllegalArgumentException, IllegalStateException]",
                "int operation[int, int, int, int, int, int]"
                        + "[IllegalArgumentException, IllegalStateException]",
                "void erase[][]", "void poke[int, int][]", "int peek[int][]"));
        due.addAll(Set.of(
                "int compile[][IllegalArgumentException, IllegalStateException, "
                        + "IndexOutOfBoundsException]",
                "int run[][IllegalStateException, UnsupportedOperationException]",
                "int result[int][IndexOutOfBoundsException]",
                "int output[int][IndexOutOfBoundsException]",
                "int variable[int][IndexOutOfBoundsException]"));
        String all = "[IllegalStateException, IndexOutOfBoundsException, NoSuchElementException]";
        due.addAll(Set.of("int shape[int, int]" + all, "int place[int, int, int]" + all,
                "long bundle[int, int, boolean]" + all,
                "double filled[int][IllegalStateException, NoSuchElementException]"));
        Set<String> got = new TreeSet<>();
        Set<String> names = new HashSet<>();
        for (Method method : BundleMill.class.getDeclaredMethods()) {
            if (!Modifier.isPrivate(method.getModifiers())) {
                got.add(told(method));
                names.add(method.getName());
            }
        }
        CHECKS.same("the face", got.toString(), due.toString());
        noFaceName(BundleMill.class, names);
        for (Class<?> one : BundleMill.class.getDeclaredClasses()) {
            noFaceName(one, names);
        }
        Constructor<?>[] constructors = BundleMill.class.getDeclaredConstructors();
        CHECKS.same("constructors", constructors.length, 1);
        CHECKS.holds("a public one", Modifier.isPublic(constructors[0].getModifiers()));
        for (Field field : BundleMill.class.getDeclaredFields()) {
            CHECKS.holds("field " + field, Modifier.isPrivate(field.getModifiers())
                    || field.getName().equals("NONE"));
        }
        CHECKS.holds("final", Modifier.isFinal(BundleMill.class.getModifiers()));
    }

    private static void noFaceName(Class<?> one, Set<String> names) {
        for (Method method : one.getDeclaredMethods()) {
            CHECKS.holds("a method of the face's name inside: " + method,
                    Modifier.isPublic(method.getModifiers()) || !names.contains(method.getName()));
        }
    }

    private static void inside() {
        Class<?>[] classes = BundleMill.class.getDeclaredClasses();
        CHECKS.holds("classes: " + classes.length, classes.length + 1 <= 12);
        for (Class<?> one : classes) {
            CHECKS.holds("static and not open: " + one, (one.getModifiers() & OPEN) == 0
                    && Modifier.isStatic(one.getModifiers()));
            fields(one);
        }
        fields(BundleMill.class);
    }

    private static void fields(Class<?> one) {
        int count = 0;
        for (Field field : one.getDeclaredFields()) {
            boolean fixed = Modifier.isStatic(field.getModifiers());
            count += fixed ? 0 : 1;
            CHECKS.holds("a static field is final: " + field,
                    !fixed || Modifier.isFinal(field.getModifiers()));
        }
        CHECKS.holds("fields of " + one + ": " + count, count <= 20);
    }

    /** Rule 7: a call throws nothing but what its face tells, whatever it is asked. */
    private static void anyArguments() throws IllegalAccessException {
        for (int seed = 1; seed <= 400; seed++) {
            Numbers numbers = new Numbers(seed);
            BundleMill mill = new BundleMill();
            for (int call = 0; call < MOST_CALLS; call++) {
                Method method = FACE[numbers.below(FACE.length)];
                if (!method.getName().equals("erase") || numbers.once(20)) {
                    askAnything(mill, method, numbers);
                }
            }
        }
    }

    private static void askAnything(BundleMill mill, Method method, Numbers numbers)
            throws IllegalAccessException {
        Object[] arguments = new Object[method.getParameterCount()];
        boolean wild = numbers.once(4);
        for (int k = 0; k < arguments.length; k++) {
            boolean flag = method.getParameterTypes()[k] == boolean.class;
            arguments[k] = flag ? (Object) numbers.once(2)
                    : wild && numbers.once(2) ? WILD[numbers.below(WILD.length)] : numbers.below(3);
        }
        try {
            method.invoke(mill, arguments);
        } catch (InvocationTargetException e) {
            CHECKS.holds(method.getName() + Arrays.toString(arguments) + " throws "
                    + e.getCause(), Arrays.asList(method.getExceptionTypes()).contains(
                    e.getCause().getClass()));
        }
    }
}
