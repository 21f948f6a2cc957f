import java.math.BigInteger;
import java.util.ArrayList;
import java.util.List;
import java.util.NoSuchElementException;
import java.util.Random;

/** Each calculation on many numbers, with BigInteger's answer as the one that is due. */
public final class OperandsTest {
    private static final BigInteger ZERO = BigInteger.ZERO;

    private OperandsTest() {
    }

    public static void main(String[] args) {
        for (BigInteger[] pair : pairs()) {
            tryPair(pair[0], pair[1]);
            tryRoots(pair[0].abs());
        }
        Random random = new Random(3);
        for (int i = 0; i < 400; i++) {
            tryPower(Numbers.any(random), Numbers.any(random).abs(), Numbers.any(random).abs());
            tryDivisionNearby(random);
            tryRootNearby(random);
        }
        Checks.end();
    }

    private static List<BigInteger[]> pairs() {
        List<BigInteger[]> all = new ArrayList<>();
        List<BigInteger> edges = Numbers.edges();
        for (int i = 0; i < edges.size(); i++) {
            for (int k = i % 3; k < edges.size(); k += 3) {
                all.add(new BigInteger[] {edges.get(i), edges.get(k)});
            }
        }
        Random random = new Random(1);
        for (int i = 0; i < 6000; i++) {
            all.add(new BigInteger[] {Numbers.any(random), Numbers.any(random)});
        }
        return all;
    }

    private static void tryPair(BigInteger a, BigInteger b) {
        LimbRegisters x = Numbers.with(a, b);
        resultDue("add " + a + " " + b, x, () -> x.add(2, 0, 1), a.add(b));
        resultDue("subtract " + a + " " + b, x, () -> x.subtract(2, 0, 1), a.subtract(b));
        resultDue("multiply " + a + " " + b, x, () -> x.multiply(2, 0, 1), a.multiply(b));
        resultDue("gcd " + a + " " + b, x, () -> x.gcd(2, 0, 1), a.gcd(b));
        Checks.due("compare " + a + " " + b, x.compare(0, 1), a.compareTo(b));
        LimbRegisters y = Numbers.with(a, b);
        int n = b.intValue() % 1100;
        resultDue("shift " + a + " " + n, y, () -> y.shift(2, 0, n), a.shiftLeft(n));
        tryInverse(y, a, b);
        if (b.signum() != 0) {
            tryDivision(a, b);
        }
    }

    private static void resultDue(String what, LimbRegisters x, Runnable call, BigInteger want) {
        if (Numbers.isTooGreat(want)) {
            Checks.throwsDue(what, UnsupportedOperationException.class, call);
        } else {
            call.run();
            Checks.due(what, Numbers.drain(x, 2), want);
        }
    }

    private static void tryInverse(LimbRegisters x, BigInteger a, BigInteger m) {
        String what = "inverse " + a + " " + m;
        if (m.signum() <= 0) {
            Checks.throwsDue(what, ArithmeticException.class, () -> x.inverse(2, 0, 1));
        } else if (!a.gcd(m).equals(BigInteger.ONE)) {
            Checks.throwsDue(what, NoSuchElementException.class, () -> x.inverse(2, 0, 1));
        } else {
            resultDue(what, x, () -> x.inverse(2, 0, 1), a.modInverse(m));
        }
    }

    private static void tryDivision(BigInteger a, BigInteger b) {
        LimbRegisters x = Numbers.with(a, b);
        BigInteger[] cut = a.divideAndRemainder(b);
        x.divide(2, 3, 0, 1, false);
        Checks.due("divide " + a + " " + b, Numbers.drain(x, 2), cut[0]);
        Checks.due("rest " + a + " " + b, Numbers.drain(x, 3), cut[1]);
        boolean step = cut[1].signum() != 0 && a.signum() != b.signum();
        x.divide(2, 3, 0, 1, true);
        Checks.due("divide down " + a + " " + b, Numbers.drain(x, 2),
                step ? cut[0].subtract(BigInteger.ONE) : cut[0]);
        Checks.due("rest down " + a + " " + b, Numbers.drain(x, 3), step ? cut[1].add(b) : cut[1]);
    }

    /** Just below, at and just above a multiple, where a limb of the quotient is easily guessed wrong. */
    private static void tryDivisionNearby(Random random) {
        BigInteger b = Numbers.any(random).shiftRight(random.nextInt(1000));
        if (b.signum() == 0) {
            return;
        }
        BigInteger q = Numbers.any(random).shiftRight(b.bitLength());
        for (int d = -1; d <= 1; d++) {
            BigInteger a = q.multiply(b).add(BigInteger.valueOf(d));
            if (!Numbers.isTooGreat(a)) {
                tryDivision(a, b);
            }
        }
    }

    private static void tryRoots(BigInteger a) {
        LimbRegisters x = Numbers.with(a);
        int[] degrees = {1, 2, 3, 5, 8, 17, 64, 1000, 1024};
        int k = degrees[Math.floorMod(a.hashCode(), degrees.length)];
        x.root(2, 0, k);
        rootDue(a, k, Numbers.drain(x, 2));
    }

    private static void rootDue(BigInteger a, int k, BigInteger got) {
        boolean good = got.signum() >= 0 && got.pow(k).compareTo(a) <= 0
                && got.add(BigInteger.ONE).pow(k).compareTo(a) > 0;
        Checks.due("root " + k + " of " + a + " is " + got + ", right", good, true);
    }

    private static void tryRootNearby(Random random) {
        int k = 2 + random.nextInt(random.nextBoolean() ? 6 : 200);
        BigInteger power = new BigInteger(1 + random.nextInt(1024 / k + 1), random).pow(k);
        for (int d = -1; d <= 1; d++) {
            BigInteger a = power.add(BigInteger.valueOf(d));
            if (a.signum() >= 0 && !Numbers.isTooGreat(a)) {
                LimbRegisters x = Numbers.with(a);
                x.root(2, 0, k);
                rootDue(a, k, Numbers.drain(x, 2));
            }
        }
    }

    private static void tryPower(BigInteger a, BigInteger e, BigInteger m) {
        if (m.equals(ZERO)) {
            return;
        }
        LimbRegisters x = Numbers.with(a, e, m);
        resultDue("power " + a + " " + e + " " + m, x, () -> x.power(2, 0, 1, 2), a.modPow(e, m));
    }
}
