import java.math.BigInteger;
import java.util.ArrayList;
import java.util.Arrays;
import java.util.List;
import java.util.NoSuchElementException;
import java.util.Random;

/** Runs of all calls with all kinds of arguments; every answer and the state at the end against a model. */
public final class RunsTest {
    private static final int RUNS = 2500;
    private static final int CALLS = 100;
    private static final String[] NAMES = {"set", "copy", "add", "subtract", "multiply", "divide", "shift",
        "root", "gcd", "power", "inverse", "compare", "bits", "bit", "low", "type", "wipe", "parse", "print",
        "character"};

    private RunsTest() {
    }

    public static void main(String[] args) {
        for (int run = 0; run < RUNS; run++) {
            tryRun(run);
        }
        Checks.end();
    }

    private static void tryRun(int run) {
        Random random = new Random(run);
        LimbRegisters x = new LimbRegisters();
        Model model = new Model();
        List<String> told = new ArrayList<>();
        for (int i = 0; i < CALLS; i++) {
            String name = NAMES[random.nextInt(NAMES.length)];
            long[] with = arguments(name, random, model);
            told.add(name + Arrays.toString(with));
            Checks.due("run " + run + " " + told, answerOf(() -> call(x, name, with)),
                    answerOf(() -> model.call(name, with)));
        }
        stateDue("run " + run + " " + told, x, model, run);
    }

    /** Few enough calls for an object: all registers, or the text where it is short enough. */
    private static void stateDue(String what, LimbRegisters x, Model model, int run) {
        if (run % 2 == 0 && model.text.length() < 400) {
            Checks.due("text after " + what, Numbers.textOf(x), model.text.toString());
            return;
        }
        for (int r = 0; r < 12; r++) {
            Checks.due("register " + r + " after " + what, Numbers.drain(x, r), model.numbers[r]);
        }
    }

    private interface Answering {
        long answer();
    }

    private static Object answerOf(Answering call) {
        try {
            return call.answer();
        } catch (RuntimeException e) {
            return e.getClass();
        }
    }

    private static long[] arguments(String name, Random random, Model model) {
        long a = register(random);
        long b = register(random);
        long c = register(random);
        switch (name) {
            case "set":
                return new long[] {a, Numbers.any(random).longValue() >> random.nextInt(64)};
            case "copy":
                return new long[] {a, b, random.nextInt(2)};
            case "divide":
                return new long[] {a, b, c, register(random), random.nextInt(2)};
            case "shift":
                return new long[] {a, b, oneOf(random, random.nextInt(2400) - 1200, random.nextInt(80) - 20,
                        random.nextInt())};
            case "root":
                return new long[] {a, b, oneOf(random, random.nextInt(9) - 1, random.nextInt(1100),
                        random.nextInt())};
            case "power":
                return new long[] {a, b, c, register(random)};
            case "bit":
                return new long[] {a, oneOf(random, random.nextInt(1100) - 20, random.nextInt())};
            case "bits":
            case "low":
                return new long[] {a};
            case "type":
                return typed(random);
            case "wipe":
                return new long[] {};
            case "parse":
            case "print":
                return new long[] {a, oneOf(random, 2 + random.nextInt(35), 2 + random.nextInt(35), 36, 16,
                        random.nextInt(50) - 5)};
            case "character":
                return new long[] {random.nextInt(model.text.length() + 3) - 1};
            case "compare":
                return new long[] {a, b};
            default:
                return new long[] {a, b, c};
        }
    }

    private static long register(Random random) {
        return random.nextInt(40) == 0 ? random.nextInt(16) - 2 : random.nextInt(random.nextBoolean() ? 12 : 4);
    }

    private static int oneOf(Random random, int... kinds) {
        return kinds[random.nextInt(kinds.length)];
    }

    private static long[] typed(Random random) {
        String from = random.nextInt(6) == 0 ? "-AZaz09 ~/:@[`{" : "0123456789abcdefABCDEF";
        long characters = random.nextLong();
        int n = random.nextInt(12) == 0 ? random.nextInt(12) - 1 : 1 + random.nextInt(8);
        for (int i = 0; i < n && random.nextInt(60) != 0; i++) {
            characters = characters << 8 | from.charAt(random.nextInt(from.length()));
        }
        return new long[] {characters, n};
    }

    private static long call(LimbRegisters x, String name, long[] with) {
        int a = with.length > 0 ? (int) with[0] : 0;
        int b = with.length > 1 ? (int) with[1] : 0;
        int c = with.length > 2 ? (int) with[2] : 0;
        int d = with.length > 3 ? (int) with[3] : 0;
        switch (name) {
            case "set": x.set(a, with[1]); return 0;
            case "copy": x.copy(a, b, c == 1); return 0;
            case "add": x.add(a, b, c); return 0;
            case "subtract": x.subtract(a, b, c); return 0;
            case "multiply": x.multiply(a, b, c); return 0;
            case "divide": x.divide(a, b, c, d, with[4] == 1); return 0;
            case "shift": x.shift(a, b, c); return 0;
            case "root": x.root(a, b, c); return 0;
            case "gcd": x.gcd(a, b, c); return 0;
            case "power": x.power(a, b, c, d); return 0;
            case "inverse": x.inverse(a, b, c); return 0;
            case "compare": return x.compare(a, b);
            case "bits": return x.bits(a);
            case "bit": return x.bit(a, b) ? 1 : 0;
            case "low": return x.low(a);
            case "type": return x.type(with[0], b);
            case "wipe": return x.wipe();
            case "parse": return x.parse(a, b);
            case "print": return x.print(a, b);
            case "character": return x.character(a);
            default: throw new AssertionError(name);
        }
    }

    /** The document, once more, on BigInteger and String. */
    private static final class Model {
        final BigInteger[] numbers = new BigInteger[12];
        final StringBuilder text = new StringBuilder();

        Model() {
            Arrays.fill(numbers, BigInteger.ZERO);
        }

        long call(String name, long[] with) {
            switch (name) {
                case "type": return type(with[0], with[1]);
                case "wipe": return emptied(text.length());
                case "character": return character(with[0]);
                case "parse": return parse(at(with[0]), with[1]);
                case "print": return print(number(with[0]), with[1]);
                case "set": numbers[at(with[0])] = BigInteger.valueOf(with[1]); return 0;
                case "copy": return copy(at(with[0]), number(with[1]), with[2] == 1);
                case "divide": return divide(with);
                case "shift": return shift(at(with[0]), number(with[1]), with[2]);
                case "root": return root(at(with[0]), number(with[1]), with[2]);
                case "power": return power(at(with[0]), number(with[1]), number(with[2]), number(with[3]));
                case "compare": return number(with[0]).compareTo(number(with[1]));
                case "bits": return number(with[0]).abs().bitLength();
                case "bit": return bit(number(with[0]), with[1]);
                case "low": return number(with[0]).longValue();
                default: return calculate(name, at(with[0]), number(with[1]), number(with[2]));
            }
        }

        private int at(long r) {
            if (r < 0 || r > 11) {
                throw new IndexOutOfBoundsException();
            }
            return (int) r;
        }

        private BigInteger number(long r) {
            return numbers[at(r)];
        }

        private long keep(int r, BigInteger v) {
            if (v.abs().compareTo(Numbers.LIMIT) >= 0) {
                throw new UnsupportedOperationException();
            }
            numbers[r] = v;
            return 0;
        }

        private long emptied(long answer) {
            text.setLength(0);
            return answer;
        }

        private long copy(int r, BigInteger v, boolean turned) {
            return keep(r, turned ? v.negate() : v);
        }

        private long calculate(String name, int r, BigInteger a, BigInteger b) {
            switch (name) {
                case "add": return keep(r, a.add(b));
                case "subtract": return keep(r, a.subtract(b));
                case "multiply": return keep(r, a.multiply(b));
                case "gcd": return keep(r, a.gcd(b));
                case "inverse": return inverse(r, a, b);
                default: throw new AssertionError(name);
            }
        }

        private long divide(long[] with) {
            int q = at(with[0]);
            int r = at(with[1]);
            BigInteger a = number(with[2]);
            BigInteger b = number(with[3]);
            if (q == r) {
                throw new IllegalArgumentException();
            }
            BigInteger quotient = a.divide(b);
            if (with[4] == 1 && quotient.multiply(b).compareTo(a) != 0 && a.signum() * b.signum() < 0) {
                quotient = quotient.subtract(BigInteger.ONE);
            }
            keep(q, quotient);
            return keep(r, a.subtract(b.multiply(quotient)));
        }

        private long shift(int r, BigInteger a, long n) {
            long within = Math.max(-3000, Math.min(3000, n));
            return keep(r, a.shiftLeft((int) within));
        }

        private long root(int r, BigInteger a, long k) {
            if (k < 1) {
                throw new IllegalArgumentException();
            }
            if (a.signum() < 0) {
                throw new ArithmeticException();
            }
            int within = (int) Math.min(k, 2000);
            BigInteger least = BigInteger.ZERO;
            BigInteger above = BigInteger.ONE.shiftLeft(a.bitLength() / within + 1);
            while (above.subtract(least).compareTo(BigInteger.ONE) > 0) {
                BigInteger middle = least.add(above).shiftRight(1);
                if (middle.pow(within).compareTo(a) <= 0) {
                    least = middle;
                } else {
                    above = middle;
                }
            }
            return keep(r, least);
        }

        private long power(int r, BigInteger a, BigInteger e, BigInteger m) {
            if (m.signum() <= 0 || e.signum() < 0) {
                throw new ArithmeticException();
            }
            return keep(r, a.modPow(e, m));
        }

        private long inverse(int r, BigInteger a, BigInteger m) {
            if (m.signum() <= 0) {
                throw new ArithmeticException();
            }
            if (!a.gcd(m).equals(BigInteger.ONE)) {
                throw new NoSuchElementException();
            }
            return keep(r, a.modInverse(m));
        }

        private long bit(BigInteger a, long i) {
            if (i < 0) {
                throw new IndexOutOfBoundsException();
            }
            return a.testBit((int) i) ? 1 : 0;
        }

        private long type(long characters, long n) {
            if (n < 1 || n > 8) {
                throw new IllegalArgumentException();
            }
            StringBuilder more = new StringBuilder();
            for (int i = (int) n - 1; i >= 0; i--) {
                more.append((char) (characters >> (8 * i) & 255));
            }
            if (!more.toString().matches("[ -~]*")) {
                throw new IllegalArgumentException();
            }
            if (text.length() + n > 1200) {
                throw new IllegalStateException();
            }
            return text.append(more).length();
        }

        private long character(long i) {
            if (i < 0 || i >= text.length()) {
                throw new IndexOutOfBoundsException();
            }
            return text.charAt((int) i);
        }

        private void needRadix(long radix) {
            if (radix < 2 || radix > 36) {
                throw new IllegalArgumentException();
            }
        }

        private long parse(int r, long radix) {
            needRadix(radix);
            String digits = text.toString().replaceFirst("^-", "");
            if (!digits.matches("[0-9a-zA-Z]+")
                    || digits.chars().anyMatch(c -> Character.digit(c, (int) radix) < 0)) {
                throw new IllegalStateException();
            }
            keep(r, new BigInteger(text.toString(), (int) radix));
            return emptied(digits.length());
        }

        private long print(BigInteger a, long radix) {
            needRadix(radix);
            text.setLength(0);
            return text.append(a.toString((int) radix)).length();
        }
    }
}
