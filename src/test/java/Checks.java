import java.util.NoSuchElementException;
import java.util.Objects;

/** What the tests of this folder share: they tell every wrong answer and end with exit code 1 after one. */
final class Checks {
    static final Class<IndexOutOfBoundsException> INDEX = IndexOutOfBoundsException.class;
    static final Class<IllegalArgumentException> ARGUMENT = IllegalArgumentException.class;
    static final Class<IllegalStateException> STATE = IllegalStateException.class;
    static final Class<ArithmeticException> ARITHMETIC = ArithmeticException.class;
    static final Class<UnsupportedOperationException> TOO_GREAT = UnsupportedOperationException.class;
    static final Class<NoSuchElementException> NONE = NoSuchElementException.class;

    private static final int MOST_TOLD = 50;
    private static int made = 0;
    private static int wrong = 0;
    private static String sentence = "";

    private Checks() {
    }

    /** The test of one sentence of the document, which is told with every wrong answer. */
    static void sentence(String words, Runnable test) {
        int madeBefore = made;
        sentence = "[" + words + "] ";
        test.run();
        due("the sentence has checks", made > madeBefore, true);
        sentence = "";
    }

    static void due(String what, Object got, Object want) {
        made++;
        if (!Objects.equals(got, want)) {
            tell(sentence + what + " answered " + got + ", due is " + want);
        }
    }

    /** The call throws an exception of this very class. */
    static void throwsDue(String what, Class<? extends RuntimeException> want, Runnable call) {
        due(what + " throws", thrownBy(call), want);
    }

    /** The class of the exception that a call throws, or null. */
    static Class<?> thrownBy(Runnable call) {
        try {
            call.run();
            return null;
        } catch (RuntimeException e) {
            return e.getClass();
        }
    }

    static void end() {
        System.out.println(made + " checks, " + wrong + " wrong");
        if (wrong > 0 || made == 0) {
            System.exit(1);
        }
    }

    private static void tell(String message) {
        wrong++;
        if (wrong <= MOST_TOLD) {
            System.out.println(message);
        }
    }
}
