import java.lang.reflect.Constructor;
import java.lang.reflect.Field;
import java.lang.reflect.Method;
import java.lang.reflect.Modifier;
import java.util.Arrays;
import java.util.Set;
import java.util.TreeSet;

/** The class shows the face that the document writes down, and nothing else. */
public final class FaceTest {
    private static final String[] FACE = {
        "void set(int, long) IndexOutOfBoundsException",
        "void copy(int, int, boolean) IndexOutOfBoundsException",
        "void add(int, int, int) IndexOutOfBoundsException, UnsupportedOperationException",
        "void subtract(int, int, int) IndexOutOfBoundsException, UnsupportedOperationException",
        "void multiply(int, int, int) IndexOutOfBoundsException, UnsupportedOperationException",
        "void divide(int, int, int, int, boolean)"
            + " IndexOutOfBoundsException, IllegalArgumentException, ArithmeticException",
        "void shift(int, int, int) IndexOutOfBoundsException, UnsupportedOperationException",
        "void root(int, int, int) IndexOutOfBoundsException, IllegalArgumentException, ArithmeticException",
        "void gcd(int, int, int) IndexOutOfBoundsException",
        "void power(int, int, int, int) IndexOutOfBoundsException, ArithmeticException",
        "void inverse(int, int, int) IndexOutOfBoundsException, ArithmeticException, NoSuchElementException",
        "int compare(int, int) IndexOutOfBoundsException",
        "int bits(int) IndexOutOfBoundsException",
        "boolean bit(int, int) IndexOutOfBoundsException",
        "long low(int) IndexOutOfBoundsException",
        "int type(long, int) IllegalArgumentException, IllegalStateException",
        "int wipe() ",
        "int parse(int, int) IndexOutOfBoundsException, IllegalArgumentException, IllegalStateException,"
            + " UnsupportedOperationException",
        "int print(int, int) IndexOutOfBoundsException, IllegalArgumentException",
        "int character(int) IndexOutOfBoundsException",
    };

    private FaceTest() {
    }

    public static void main(String[] args) {
        Class<LimbRegisters> program = LimbRegisters.class;
        Checks.due("the class is public and final", program.getModifiers(), Modifier.PUBLIC | Modifier.FINAL);
        Checks.due("it is no other's child", program.getSuperclass(), Object.class);
        Checks.due("methods", methodsOf(program), new TreeSet<>(Arrays.asList(FACE)));
        constructorsDue(program);
        privateDue(program);
        for (Class<?> inside : program.getDeclaredClasses()) {
            Checks.due(inside + " is static", Modifier.isStatic(inside.getModifiers()), true);
            Checks.due(inside + " is seen outside",
                    (inside.getModifiers() & (Modifier.PUBLIC | Modifier.PROTECTED)) != 0, false);
            staticFieldsDue(inside);
            namesDue(inside);
        }
        Checks.end();
    }

    private static Set<String> methodsOf(Class<?> program) {
        Set<String> all = new TreeSet<>();
        for (Method method : program.getDeclaredMethods()) {
            if (!Modifier.isPrivate(method.getModifiers())) {
                Checks.due(method + " is public only", method.getModifiers(), Modifier.PUBLIC);
                all.add(method.getReturnType() + " " + method.getName() + "(" + names(method.getParameterTypes())
                        + ") " + names(method.getExceptionTypes()));
            }
        }
        return all;
    }

    private static String names(Class<?>[] classes) {
        StringBuilder all = new StringBuilder();
        for (Class<?> one : classes) {
            all.append(all.length() == 0 ? "" : ", ").append(one.getSimpleName());
        }
        return all.toString();
    }

    private static void constructorsDue(Class<?> program) {
        Constructor<?>[] all = program.getDeclaredConstructors();
        Checks.due("constructors", all.length, 1);
        Checks.due("the constructor is public", all[0].getModifiers(), Modifier.PUBLIC);
        Checks.due("its parameters", all[0].getParameterCount(), 0);
        Checks.due("its exceptions", all[0].getExceptionTypes().length, 0);
    }

    private static void privateDue(Class<?> program) {
        for (Field field : program.getDeclaredFields()) {
            Checks.due(field + " is private", Modifier.isPrivate(field.getModifiers()), true);
        }
        staticFieldsDue(program);
        for (Method method : program.getDeclaredMethods()) {
            if (Modifier.isPrivate(method.getModifiers())) {
                nameDue(method);
            }
        }
    }

    private static void staticFieldsDue(Class<?> program) {
        for (Field field : program.getDeclaredFields()) {
            if (Modifier.isStatic(field.getModifiers())) {
                Checks.due(field + " is final", Modifier.isFinal(field.getModifiers()), true);
            }
        }
    }

    private static void namesDue(Class<?> inside) {
        for (Method method : inside.getDeclaredMethods()) {
            nameDue(method);
        }
    }

    /** Nothing inside bears the name of a method of the face. */
    private static void nameDue(Method method) {
        for (String face : FACE) {
            Checks.due(method + " has a name of its own", face.contains(" " + method.getName() + "("), false);
        }
    }
}
