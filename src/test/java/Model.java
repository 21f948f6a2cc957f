import java.math.BigInteger;
import java.util.Arrays;
import java.util.NoSuchElementException;

/** The document, once more, on BigInteger and String. */
final class Model {
    final BigInteger[] numbers = new BigInteger[12];
    final StringBuilder text = new StringBuilder();

    Model() {
        Arrays.fill(numbers, BigInteger.ZERO);
    }

    long call(String name, long[] with) {
        switch (name) {
            case "type": return type(with[0], with[1]);
            case "wipe": return emptied(text.length());
            case "character": return character(with[0]);
            case "parse": return parse(at(with[0]), with[1]);
            case "print": return print(number(with[0]), with[1]);
            case "set": numbers[at(with[0])] = BigInteger.valueOf(with[1]); return 0;
            case "copy": return copy(at(with[0]), number(with[1]), with[2] == 1);
            case "divide": return divide(with);
            case "shift": return shift(at(with[0]), number(with[1]), with[2]);
            case "root": return root(at(with[0]), number(with[1]), with[2]);
            case "power": return power(at(with[0]), number(with[1]), number(with[2]), number(with[3]));
            case "compare": return number(with[0]).compareTo(number(with[1]));
            case "bits": return number(with[0]).abs().bitLength();
            case "bit": return bit(number(with[0]), with[1]);
            case "low": return number(with[0]).longValue();
            default: return calculate(name, at(with[0]), number(with[1]), number(with[2]));
        }
    }

    private int at(long r) {
        if (r < 0 || r > 11) {
            throw new IndexOutOfBoundsException();
        }
        return (int) r;
    }

    private BigInteger number(long r) {
        return numbers[at(r)];
    }

    private long keep(int r, BigInteger v) {
        if (v.abs().compareTo(Numbers.LIMIT) >= 0) {
            throw new UnsupportedOperationException();
        }
        numbers[r] = v;
        return 0;
    }

    private long emptied(long answer) {
        text.setLength(0);
        return answer;
    }

    private long copy(int r, BigInteger v, boolean turned) {
        return keep(r, turned ? v.negate() : v);
    }

    private long calculate(String name, int r, BigInteger a, BigInteger b) {
        switch (name) {
            case "add": return keep(r, a.add(b));
            case "subtract": return keep(r, a.subtract(b));
            case "multiply": return keep(r, a.multiply(b));
            case "gcd": return keep(r, a.gcd(b));
            case "inverse": return inverse(r, a, b);
            default: throw new AssertionError(name);
        }
    }

    private long divide(long[] with) {
        int q = at(with[0]);
        int r = at(with[1]);
        BigInteger a = number(with[2]);
        BigInteger b = number(with[3]);
        if (q == r) {
            throw new IllegalArgumentException();
        }
        BigInteger quotient = a.divide(b);
        if (with[4] == 1 && quotient.multiply(b).compareTo(a) != 0 && a.signum() * b.signum() < 0) {
            quotient = quotient.subtract(BigInteger.ONE);
        }
        keep(q, quotient);
        return keep(r, a.subtract(b.multiply(quotient)));
    }

    private long shift(int r, BigInteger a, long n) {
        long within = Math.max(-3000, Math.min(3000, n));
        return keep(r, a.shiftLeft((int) within));
    }

    private long root(int r, BigInteger a, long k) {
        if (k < 1) {
            throw new IllegalArgumentException();
        }
        if (a.signum() < 0) {
            throw new ArithmeticException();
        }
        int within = (int) Math.min(k, 2000);
        BigInteger least = BigInteger.ZERO;
        BigInteger above = BigInteger.ONE.shiftLeft(a.bitLength() / within + 1);
        while (above.subtract(least).compareTo(BigInteger.ONE) > 0) {
            BigInteger middle = least.add(above).shiftRight(1);
            if (middle.pow(within).compareTo(a) <= 0) {
                least = middle;
            } else {
                above = middle;
            }
        }
        return keep(r, least);
    }

    private long power(int r, BigInteger a, BigInteger e, BigInteger m) {
        if (m.signum() <= 0 || e.signum() < 0) {
            throw new ArithmeticException();
        }
        return keep(r, a.modPow(e, m));
    }

    private long inverse(int r, BigInteger a, BigInteger m) {
        if (m.signum() <= 0) {
            throw new ArithmeticException();
        }
        if (!a.gcd(m).equals(BigInteger.ONE)) {
            throw new NoSuchElementException();
        }
        return keep(r, a.modInverse(m));
    }

    private long bit(BigInteger a, long i) {
        if (i < 0) {
            throw new IndexOutOfBoundsException();
        }
        return a.testBit((int) i) ? 1 : 0;
    }

    private long type(long characters, long n) {
        if (n < 1 || n > 8) {
            throw new IllegalArgumentException();
        }
        StringBuilder more = new StringBuilder();
        for (int i = (int) n - 1; i >= 0; i--) {
            more.append((char) (characters >> (8 * i) & 255));
        }
        if (!more.toString().matches("[ -~]*")) {
            throw new IllegalArgumentException();
        }
        if (text.length() + n > 1200) {
            throw new IllegalStateException();
        }
        return text.append(more).length();
    }

    private long character(long i) {
        if (i < 0 || i >= text.length()) {
            throw new IndexOutOfBoundsException();
        }
        return text.charAt((int) i);
    }

    private void needRadix(long radix) {
        if (radix < 2 || radix > 36) {
            throw new IllegalArgumentException();
        }
    }

    private long parse(int r, long radix) {
        needRadix(radix);
        String digits = text.toString().replaceFirst("^-", "");
        if (!digits.matches("[0-9a-zA-Z]+")
                || digits.chars().anyMatch(c -> Character.digit(c, (int) radix) < 0)) {
            throw new IllegalStateException();
        }
        keep(r, new BigInteger(text.toString(), (int) radix));
        return emptied(digits.length());
    }

    private long print(BigInteger a, long radix) {
        needRadix(radix);
        text.setLength(0);
        return text.append(a.toString((int) radix)).length();
    }
}
