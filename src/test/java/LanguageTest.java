import java.io.IOException;
import java.lang.reflect.Field;
import java.lang.reflect.Method;
import java.lang.reflect.Modifier;
import java.nio.file.Files;
import java.nio.file.Path;
import java.util.ArrayList;
import java.util.List;
import java.util.Set;
import java.util.regex.Matcher;
import java.util.regex.Pattern;

/** The rules of LANGUAGE.md that can be seen in the lines of the program, by their numbers. */
public final class LanguageTest {
    private static final Path PROGRAM = Path.of("src/main/java/LimbRegisters.java");
    private static final int MOST_CLASSES = 12;
    private static final int MOST_FIELDS = 20;
    private static final int MOST_PARAMETERS = 7;
    private static final int MOST_LINES = 60;

    private static final String COMMENT = "(?s)/\\*.*?\\*/|//[^\n]*";
    private static final String TEXT = "\"[^\"\n]*\"";
    private static final String THROW = "throw new (IllegalStateException|IllegalArgumentException"
            + "|IndexOutOfBoundsException|ArithmeticException|UnsupportedOperationException|NoSuchElementException"
            + "|RuntimeException)\\((\"\")?\\);";
    /** Rules 2, 3, 6, 10 and 13: what has no place in the program at all. */
    private static final String[] NEVER = {"->", "::", "\\bpackage\\b", "\\bfinally\\b", "\\bsynchronized\\b",
        "\\bassert\\b", "\\bnative\\b", "\\bvolatile\\b", "\\btransient\\b", "\\bgetMessage\\b", "\\bThread\\b",
        "\\bRuntime\\b", "\\bRandom\\b", "\\bBigInteger\\b", "\\bObject\\b", "Exact\\(", "\\bstatic \\{",
        "\"\" \\+", "\\+ \"\"", "\\bjava\\.(?!util\\.)", "\\bSystem\\.(?!arraycopy\\()"};
    private static final Set<Class<?>> STATIC_TYPES = Set.of(int.class, long.class, boolean.class, char.class,
            String.class, int[].class, long[].class, char[].class, byte[].class);

    private LanguageTest() {
    }

    public static void main(String[] args) throws IOException {
        String lines = Files.readString(PROGRAM).replaceAll(TEXT, "\"\"").replaceAll(COMMENT, "");
        for (String word : NEVER) {
            Checks.due("in the program: " + word, found(lines, word), List.of());
        }
        importsDue(lines);
        Checks.due("rule 4: of the library's classes of numbers, only their functions",
                found(lines, "\\b(Math|Long|Integer)\\.\\w+\\b(?!\\()"), List.of());
        Checks.due("rule 6: every throw is one of the written kinds",
                found(lines, "\\bthrow\\b").size(), found(lines, THROW).size());
        Checks.due("rule 9: no loop without a test", found(lines, "while \\(true\\)|for \\([^;]*;\\s*;"), List.of());
        methodLengthsDue(lines);
        classesDue();
        Checks.end();
    }

    private static List<String> found(String lines, String pattern) {
        List<String> all = new ArrayList<>();
        Matcher matcher = Pattern.compile(pattern).matcher(lines);
        while (matcher.find()) {
            all.add(matcher.group());
        }
        return all;
    }

    private static void importsDue(String lines) {
        for (String line : found(lines, "(?m)^import .*$")) {
            Checks.due("rule 4: " + line, line.matches(
                    "import java\\.util\\.(NoSuchElementException|Arrays|ArrayList|List|Iterator);"), true);
        }
    }

    /** A method begins with its head at the depth of its class, and ends with a brace at the same depth. */
    private static void methodLengthsDue(String lines) {
        int methods = 0;
        Pattern method = Pattern.compile("(?ms)^((?: {4}){1,2})(?! |static final class|private static final class)"
                + "[a-z][^;={}]*\\([^;={}]*\\{\n(.*?)^\\1\\}$");
        Matcher matcher = method.matcher(lines);
        while (matcher.find()) {
            methods++;
            String head = matcher.group().lines().findFirst().orElse("").trim();
            Checks.due("rule 11: lines of " + head, matcher.group().lines().count() <= MOST_LINES, true);
        }
        Checks.due("methods and constructors found", methods, writtenMethods());
    }

    private static int writtenMethods() {
        int all = LimbRegisters.class.getDeclaredConstructors().length;
        for (Class<?> one : allClasses()) {
            for (Method method : one.getDeclaredMethods()) {
                all += method.isSynthetic() ? 0 : 1;
            }
        }
        return all;
    }

    private static List<Class<?>> allClasses() {
        List<Class<?>> all = new ArrayList<>(List.of(LimbRegisters.class.getDeclaredClasses()));
        all.add(LimbRegisters.class);
        return all;
    }

    private static void classesDue() {
        Checks.due("rule 11: classes", allClasses().size() <= MOST_CLASSES, true);
        for (Class<?> one : allClasses()) {
            fieldsDue(one);
            for (Method method : one.getDeclaredMethods()) {
                Checks.due("rule 11: parameters of " + method, method.getParameterCount() <= MOST_PARAMETERS, true);
                Checks.due("rule 6: " + method,
                        Set.of("equals", "hashCode", "toString", "finalize").contains(method.getName()), false);
            }
        }
    }

    private static void fieldsDue(Class<?> one) {
        int fields = 0;
        for (Field field : one.getDeclaredFields()) {
            if (Modifier.isStatic(field.getModifiers())) {
                Checks.due("rule 5: " + field + " is final", Modifier.isFinal(field.getModifiers()), true);
                Checks.due("rule 5: type of " + field, STATIC_TYPES.contains(field.getType()), true);
            } else {
                fields++;
            }
        }
        Checks.due("rule 11: fields of " + one, fields <= MOST_FIELDS, true);
    }
}
