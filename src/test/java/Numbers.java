import java.math.BigInteger;
import java.util.ArrayList;
import java.util.List;
import java.util.Random;

/** Brings numbers and texts into an object and out of it, and makes numbers that are worth a try. */
final class Numbers {
    static final BigInteger LIMIT = BigInteger.ONE.shiftLeft(1024);
    static final BigInteger GREATEST = LIMIT.subtract(BigInteger.ONE);

    private Numbers() {
    }

    /** Puts a text behind the text, eight characters a call. */
    static void typeAll(LimbRegisters x, String text) {
        for (int i = 0; i < text.length(); i += 8) {
            int n = Math.min(8, text.length() - i);
            x.type(packed(text.substring(i, i + n)), n);
        }
    }

    static long packed(String characters) {
        long all = 0;
        for (int i = 0; i < characters.length(); i++) {
            all = all << 8 | characters.charAt(i);
        }
        return all;
    }

    /** At most 35 calls; the text is empty then. */
    static void load(LimbRegisters x, int r, BigInteger v) {
        x.wipe();
        typeAll(x, v.toString(16));
        x.parse(r, 16);
    }

    static LimbRegisters with(BigInteger... numbers) {
        LimbRegisters x = new LimbRegisters();
        for (int r = 0; r < numbers.length; r++) {
            load(x, r, numbers[r]);
        }
        return x;
    }

    /** Reads a register with 35 calls, and leaves 0 or -1 in it. */
    static BigInteger drain(LimbRegisters x, int r) {
        BigInteger v = BigInteger.ZERO;
        for (int i = 0; i < 17; i++) {
            BigInteger part = new BigInteger(Long.toUnsignedString(x.low(r)));
            v = v.add(part.shiftLeft(64 * i));
            x.shift(r, r, -64);
        }
        return x.bit(r, 0) ? v.subtract(BigInteger.ONE.shiftLeft(64 * 17)) : v;
    }

    /** The whole text; a call for each character and one more. */
    static String textOf(LimbRegisters x) {
        StringBuilder text = new StringBuilder();
        try {
            while (true) {
                text.append((char) x.character(text.length()));
            }
        } catch (IndexOutOfBoundsException e) {
            return text.toString();
        }
    }

    static boolean isTooGreat(BigInteger v) {
        return v.bitLength() > 1024 || v.equals(LIMIT.negate());
    }

    /** The numbers at which something changes: around 0, powers of 2, and the greatest. */
    static List<BigInteger> edges() {
        List<BigInteger> all = new ArrayList<>();
        for (int k : new int[] {0, 1, 2, 3, 27, 28, 29, 31, 32, 33, 55, 56, 57, 63, 64, 65, 84,
                511, 512, 513, 1007, 1008, 1009, 1022, 1023, 1024}) {
            for (int d = -1; d <= 1; d++) {
                BigInteger v = BigInteger.ONE.shiftLeft(k).add(BigInteger.valueOf(d));
                if (!isTooGreat(v)) {
                    all.add(v);
                    all.add(v.negate());
                }
            }
        }
        return all;
    }

    /** Numbers of every length, often with long rows of the same bit, which division finds hardest. */
    static BigInteger any(Random random) {
        int length = random.nextInt(8) == 0 ? 1024 : random.nextInt(1025);
        BigInteger v = random.nextBoolean() ? new BigInteger(length, random) : stripes(random, length);
        if (random.nextInt(4) == 0) {
            v = v.add(BigInteger.valueOf(random.nextInt(5) - 2));
        }
        if (random.nextInt(3) == 0) {
            v = v.negate();
        }
        return isTooGreat(v) ? GREATEST : v;
    }

    private static BigInteger stripes(Random random, int length) {
        BigInteger v = BigInteger.ZERO;
        int left = length;
        boolean ones = true;
        while (left > 0) {
            int n = Math.min(left, 1 + random.nextInt(random.nextBoolean() ? 28 : 120));
            v = v.shiftLeft(n);
            if (ones) {
                v = v.add(BigInteger.ONE.shiftLeft(n).subtract(BigInteger.ONE));
            }
            ones = !ones;
            left -= n;
        }
        return v;
    }
}
