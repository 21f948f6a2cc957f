/** The calls of the face by their names, with their arguments in a row of longs (a boolean is 1 or 0 there). */
final class Calls {
    static final String[] NAMES = {"set", "copy", "add", "subtract", "multiply", "divide", "shift",
        "root", "gcd", "power", "inverse", "compare", "bits", "bit", "low", "type", "wipe", "parse", "print",
        "character"};

    interface Answering {
        Object answer();
    }

    private Calls() {
    }

    /** How many of a call's arguments are registers; these come first. */
    static int registersOf(String name) {
        switch (name) {
            case "divide": case "power":
                return 4;
            case "add": case "subtract": case "multiply": case "gcd": case "inverse":
                return 3;
            case "copy": case "shift": case "root": case "compare":
                return 2;
            case "set": case "bits": case "bit": case "low": case "parse": case "print":
                return 1;
            default:
                return 0;
        }
    }

    static long call(LimbRegisters x, String name, long... with) {
        int a = with.length > 0 ? (int) with[0] : 0;
        int b = with.length > 1 ? (int) with[1] : 0;
        int c = with.length > 2 ? (int) with[2] : 0;
        int d = with.length > 3 ? (int) with[3] : 0;
        switch (name) {
            case "set": x.set(a, with[1]); return 0;
            case "copy": x.copy(a, b, c == 1); return 0;
            case "add": x.add(a, b, c); return 0;
            case "subtract": x.subtract(a, b, c); return 0;
            case "multiply": x.multiply(a, b, c); return 0;
            case "divide": x.divide(a, b, c, d, with[4] == 1); return 0;
            case "shift": x.shift(a, b, c); return 0;
            case "root": x.root(a, b, c); return 0;
            case "gcd": x.gcd(a, b, c); return 0;
            case "power": x.power(a, b, c, d); return 0;
            case "inverse": x.inverse(a, b, c); return 0;
            case "compare": return x.compare(a, b);
            case "bits": return x.bits(a);
            case "bit": return x.bit(a, b) ? 1 : 0;
            case "low": return x.low(a);
            case "type": return x.type(with[0], b);
            case "wipe": return x.wipe();
            case "parse": return x.parse(a, b);
            case "print": return x.print(a, b);
            case "character": return x.character(a);
            default: throw new AssertionError(name);
        }
    }

    /** What a call answers, or the class of the exception that it throws. */
    static Object answerOf(Answering call) {
        try {
            return call.answer();
        } catch (RuntimeException e) {
            return e.getClass();
        }
    }
}
