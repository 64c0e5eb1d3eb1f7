import java.lang.reflect.Constructor;
import java.lang.reflect.Field;
import java.lang.reflect.Method;
import java.lang.reflect.Modifier;
import java.util.Arrays;
import java.util.Set;
import java.util.TreeSet;

/** The class shows the document's face and nothing beside it. */
public final class FaceTest {
    private static final String INDEX = " throws IndexOutOfBoundsException";
    private static final String ARGUMENT = ", IllegalArgumentException";
    private static final String STATE = ", IllegalStateException";

    private static final String[] FACE = {
        "int setNoise(int, int, int)" + INDEX + ARGUMENT,
        "int setCoupling(int, int, int)" + INDEX + ARGUMENT,
        "int setLimit(int, int, int)" + INDEX + ARGUMENT + STATE,
        "int setBudget(int, int)" + INDEX + ARGUMENT,
        "int loadRate(int)" + INDEX,
        "long loadBits(int, int)" + INDEX + ARGUMENT + STATE,
        "int repair(int)" + INDEX,
        "int balance(int) throws IllegalArgumentException",
        "int bits(int, int, int)" + INDEX + ARGUMENT,
        "int rate(int)" + INDEX,
        "long energy(int, int)" + INDEX,
        "long totalEnergy(int)" + INDEX,
        "long disturbedNoise(int, int)" + INDEX,
        "long margin(int, int)" + INDEX,
        "long leastMargin(int)" + INDEX,
        "int badTones(int)" + INDEX,
        "boolean isEfficient(int)" + INDEX,
        "double meanBits(int)" + INDEX,
        "int request(int, int, int)" + INDEX + ARGUMENT + STATE,
        "int suggest(int)" + INDEX,
        "int resend(int)" + INDEX + STATE,
        "int deliver(int, int, boolean)" + INDEX + ARGUMENT + STATE,
        "int run(int) throws IllegalArgumentException",
        "boolean inStep(int)" + INDEX,
        "int brokenFrames(int)" + INDEX,
        "int undo() throws IllegalStateException",
        "long digest()",
    };

    public static void main(String[] args) {
        Checks checks = new Checks("FaceTest");
        Class<?> type = ToneLoader.class;
        checks.same("public final class", type.getModifiers(), Modifier.PUBLIC | Modifier.FINAL);
        checks.same("NONE", ToneLoader.NONE, -1);
        checks.same("methods", shownMethods(type), new TreeSet<>(Arrays.asList(FACE)));
        checks.same("fields", shownFields(type), Set.of("public static final int NONE"));
        checks.same("constructors", type.getDeclaredConstructors().length, 1);
        for (Constructor<?> maker : type.getDeclaredConstructors()) {
            checks.same("constructor", maker.toString(), "public ToneLoader()");
        }
        checkHiddenNames(checks, type);
        for (Class<?> inner : type.getDeclaredClasses()) {
            checks.same(inner + " is static", Modifier.isStatic(inner.getModifiers()), true);
            checks.same(inner + " is hidden",
                    inner.getModifiers() & (Modifier.PUBLIC | Modifier.PROTECTED), 0);
            checkHiddenNames(checks, inner);
        }
        checks.end();
    }

    private static Set<String> shownMethods(Class<?> type) {
        Set<String> shown = new TreeSet<>();
        for (Method method : type.getDeclaredMethods()) {
            if (!Modifier.isPrivate(method.getModifiers())) {
                checkPlainlyPublic(method);
                shown.add(describe(method));
            }
        }
        return shown;
    }

    private static void checkPlainlyPublic(Method method) {
        if (method.getModifiers() != Modifier.PUBLIC) {
            throw new IllegalStateException("not plainly public: " + method);
        }
    }

    private static String describe(Method method) {
        StringBuilder text = new StringBuilder();
        text.append(method.getReturnType().getSimpleName()).append(' ').append(method.getName());
        text.append('(').append(names(method.getParameterTypes())).append(')');
        String thrown = names(method.getExceptionTypes());
        return thrown.isEmpty() ? text.toString() : text + " throws " + thrown;
    }

    private static String names(Class<?>[] types) {
        StringBuilder text = new StringBuilder();
        for (Class<?> type : types) {
            text.append(text.length() == 0 ? "" : ", ").append(type.getSimpleName());
        }
        return text.toString();
    }

    private static Set<String> shownFields(Class<?> type) {
        Set<String> shown = new TreeSet<>();
        for (Field field : type.getDeclaredFields()) {
            if (!Modifier.isPrivate(field.getModifiers())) {
                shown.add(Modifier.toString(field.getModifiers()) + ' ' + field.getType()
                        + ' ' + field.getName());
            }
        }
        return shown;
    }

    /** No method that is not of the face bears the name of one that is. */
    private static void checkHiddenNames(Checks checks, Class<?> type) {
        for (Method method : type.getDeclaredMethods()) {
            if (!Modifier.isPublic(method.getModifiers())) {
                for (String line : FACE) {
                    checks.same(type + " hides the name " + method.getName(),
                            line.contains(' ' + method.getName() + '('), false);
                }
            }
        }
    }
}
