import java.util.Objects;

/** What the tests of this folder share: they tell every wrong answer and end with exit code 1 after one. */
final class Checks {
    private static final int MOST_TOLD = 50;
    private static int made = 0;
    private static int wrong = 0;

    private Checks() {
    }

    static void due(String what, Object got, Object want) {
        made++;
        if (!Objects.equals(got, want)) {
            tell(what + " answered " + got + ", due is " + want);
        }
    }

    /** The call throws an exception of this very class. */
    static void throwsDue(String what, Class<? extends RuntimeException> want, Runnable call) {
        due(what + " throws", thrownBy(call), want);
    }

    /** The class of the exception that a call throws, or null. */
    static Class<?> thrownBy(Runnable call) {
        try {
            call.run();
            return null;
        } catch (RuntimeException e) {
            return e.getClass();
        }
    }

    static void end() {
        System.out.println(made + " checks, " + wrong + " wrong");
        if (wrong > 0 || made == 0) {
            System.exit(1);
        }
    }

    private static void tell(String message) {
        wrong++;
        if (wrong <= MOST_TOLD) {
            System.out.println(message);
        }
    }
}
