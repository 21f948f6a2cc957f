import java.math.BigInteger;

/** The boundary cases of promises 1 to 16, sentence by sentence: what is just within, and what is refused. */
public final class NumberEdgesTest {
    private static final BigInteger GREATEST = Numbers.GREATEST;
    private static final BigInteger TWO_1023 = BigInteger.ONE.shiftLeft(1023);

    /** The registers of FROM, by what they hold. */
    private static final int MOST = 0;
    private static final int LEAST = 1;
    private static final int ONE = 2;
    private static final int MINUS_ONE = 3;
    private static final int ZERO = 4;
    private static final int SIX = 5;
    private static final int FIFTEEN = 6;
    private static final int MINUS_SEVEN = 7;
    private static final int TOP = 8;
    private static final int MINUS_TOP = 9;
    private static final int HALF = 10;
    private static final int BELOW_HALF = 11;
    private static final State FROM = State.ofBig("-1a ~", GREATEST, GREATEST.negate(), big(1), big(-1), big(0),
            big(6), big(15), big(-7), TWO_1023, TWO_1023.negate(), two(512), two(512).subtract(big(1)));

    private interface Into {
        void call(LimbRegisters x, int r);
    }

    private NumberEdgesTest() {
    }

    public static void main(String[] args) {
        Checks.sentence("1: All registers have 0, the text is empty", NumberEdgesTest::newObject);
        Checks.sentence("2: Register r gets v", NumberEdgesTest::outermostLongs);
        Checks.sentence("3: turned, the number that makes 0 with it", NumberEdgesTest::turned);
        Checks.sentence("4: Register r gets the sum", NumberEdgesTest::sumsJustWithin);
        Checks.sentence("4: UnsupportedOperationException: it is too great", NumberEdgesTest::sumsTooGreat);
        Checks.sentence("5: Register r gets the number of a less that of b", NumberEdgesTest::differencesJustWithin);
        Checks.sentence("5: UnsupportedOperationException: it is too great", NumberEdgesTest::differencesTooGreat);
        Checks.sentence("6: Register r gets the product", NumberEdgesTest::productsJustWithin);
        Checks.sentence("6: UnsupportedOperationException: it is too great", NumberEdgesTest::productsTooGreat);
        Checks.sentence("7: cut off to a whole number towards 0", NumberEdgesTest::cutOff);
        Checks.sentence("7: down, to the greatest whole number that is not above it", NumberEdgesTest::cutDown);
        Checks.sentence("7: r gets what is left", NumberEdgesTest::outermostQuotients);
        Checks.sentence("7: IllegalArgumentException: q and r are the same register", NumberEdgesTest::sameRegister);
        Checks.sentence("7: ArithmeticException: the number of b is 0", NumberEdgesTest::dividedByZero);
        Checks.sentence("8: the greatest whole number that is not above", NumberEdgesTest::shiftedDown);
        Checks.sentence("8: (n may be below 0)", NumberEdgesTest::shiftedAway);
        Checks.sentence("8: times 2^n", NumberEdgesTest::shiftedUpJustWithin);
        Checks.sentence("8: UnsupportedOperationException: it is too great", NumberEdgesTest::shiftedTooGreat);
        Checks.sentence("9: the greatest whole number whose k-th power is not above", NumberEdgesTest::rootsAtPowers);
        Checks.sentence("9: k-th power, of great k", NumberEdgesTest::greatDegrees);
        Checks.sentence("9: IllegalArgumentException: k is below 1", NumberEdgesTest::degreeBelowOne);
        Checks.sentence("9: ArithmeticException: the number of a is below 0", NumberEdgesTest::rootBelowZero);
        Checks.sentence("10: the greatest whole number that divides", NumberEdgesTest::divisors);
        Checks.sentence("10: 0 when both are 0", NumberEdgesTest::divisorOfZeros);
        Checks.sentence("11: from 0 to one below it", NumberEdgesTest::powersWithin);
        Checks.sentence("11: To the power of 0 any number is 1, also 0", NumberEdgesTest::powerOfZero);
        Checks.sentence("11: ArithmeticException: the number of m is not above 0", NumberEdgesTest::powerModulus);
        Checks.sentence("11: ArithmeticException: or that of e is below 0", NumberEdgesTest::powerExponent);
        Checks.sentence("12: the number x, from 0 to one below the number of m", NumberEdgesTest::inversesWithin);
        Checks.sentence("12: ArithmeticException: the number of m is not above 0", NumberEdgesTest::inverseModulus);
        Checks.sentence("12: NoSuchElementException: there is no such x", NumberEdgesTest::noInverse);
        Checks.sentence("13: -1 less, 0 the same, 1 greater", NumberEdgesTest::neighboursCompared);
        Checks.sentence("14: The least k, above -2^k and below 2^k", NumberEdgesTest::bitsAroundPowers);
        Checks.sentence("15: divided by 2^i is odd", NumberEdgesTest::bitsOfPowers);
        Checks.sentence("15: whether, of great i", NumberEdgesTest::bitsAboveAll);
        Checks.sentence("15: IndexOutOfBoundsException: also when i is below 0", NumberEdgesTest::bitBelowZero);
        Checks.sentence("16: differs by a multiple of 2^64", NumberEdgesTest::lowWraps);
        Checks.end();
    }

    private static BigInteger big(long v) {
        return BigInteger.valueOf(v);
    }

    private static BigInteger two(int n) {
        return BigInteger.ONE.shiftLeft(n);
    }

    /** The result comes into whichever register it is to come into, one of the operands too. */
    private static void comes(String what, BigInteger result, Into call) {
        for (int r = 0; r < 12; r++) {
            int to = r;
            FROM.leaves(what + " into " + r, x -> call.call(x, to), FROM.with(r, result));
        }
    }

    /** The call is refused, and changes nothing, whichever register the result would have come into. */
    private static void refused(String what, Class<? extends RuntimeException> want, Into call) {
        for (int r = 0; r < 12; r++) {
            int to = r;
            FROM.refuses(what + " into " + r, want, x -> call.call(x, to));
        }
    }

    private static void newObject() {
        LimbRegisters old = new LimbRegisters();
        old.set(0, 5);
        old.type('7', 1);
        for (int r = 0; r < 12; r++) {
            newRegister(r);
        }
        Checks.due("wipe", new LimbRegisters().wipe(), 0);
        Checks.throwsDue("character 0", Checks.INDEX, () -> new LimbRegisters().character(0));
        Checks.throwsDue("parse of nothing", Checks.STATE, () -> new LimbRegisters().parse(0, 10));
        Checks.due("the first character", new LimbRegisters().type('a', 1), 1);
        Checks.due("the older object's register", old.low(0), 5L);
        Checks.due("the older object's text", old.wipe(), 1);
    }

    /** What a register that no call has written shows of its 0, in every way that there is. */
    private static void newRegister(int r) {
        Checks.due("bits of " + r, new LimbRegisters().bits(r), 0);
        Checks.due("low of " + r, new LimbRegisters().low(r), 0L);
        Checks.due("bit 0 of " + r, new LimbRegisters().bit(r, 0), false);
        Checks.due("bit 2000 of " + r, new LimbRegisters().bit(r, 2000), false);
        LimbRegisters x = new LimbRegisters();
        x.set((r + 1) % 12, 0);
        Checks.due(r + " and a 0 that was set", x.compare(r, (r + 1) % 12), 0);
        Checks.due("a 0 that was set and " + r, x.compare((r + 1) % 12, r), 0);
        Checks.due("characters of " + r, x.print(r, 10), 1);
        Checks.due("character of " + r, x.character(0), (int) '0');
        Checks.throwsDue("division by " + r, Checks.ARITHMETIC, () -> x.divide(0, 1, 2, r, true));
        x.root(r, r, 2);
        Checks.due("root of " + r, x.low(r), 0L);
    }

    private static void outermostLongs() {
        for (long v : new long[] {0, 1, -1, Long.MAX_VALUE, Long.MIN_VALUE, Long.MIN_VALUE + 1, 1L << 32, -1L << 32,
            Integer.MAX_VALUE, Integer.MIN_VALUE}) {
            comes("set " + v, big(v), (x, r) -> x.set(r, v));
        }
    }

    private static void turned() {
        comes("0", big(0), (x, r) -> x.copy(r, ZERO, true));
        comes("1", big(-1), (x, r) -> x.copy(r, ONE, true));
        comes("-1", big(1), (x, r) -> x.copy(r, MINUS_ONE, true));
        comes("the greatest", GREATEST.negate(), (x, r) -> x.copy(r, MOST, true));
        comes("the least", GREATEST, (x, r) -> x.copy(r, LEAST, true));
        comes("the least, not turned", GREATEST.negate(), (x, r) -> x.copy(r, LEAST, false));
        comes("0, not turned", big(0), (x, r) -> x.copy(r, ZERO, false));
        State zeroTurned = State.of("", 0);
        zeroTurned.answers("0 turned, compared with 0", x -> {
            x.copy(0, 1, true);
            return x.compare(0, 1);
        }, 0, State.of("", 0));
        zeroTurned.answers("0 turned, printed", x -> {
            x.copy(0, 1, true);
            return x.print(0, 10);
        }, 1, State.of("0"));
    }

    private static void sumsJustWithin() {
        comes("the greatest and 0", GREATEST, (x, r) -> x.add(r, MOST, ZERO));
        comes("0 and the least", GREATEST.negate(), (x, r) -> x.add(r, ZERO, LEAST));
        comes("the greatest and -1", GREATEST.subtract(big(1)), (x, r) -> x.add(r, MOST, MINUS_ONE));
        comes("1 and the least", GREATEST.negate().add(big(1)), (x, r) -> x.add(r, ONE, LEAST));
        comes("the greatest and the least", big(0), (x, r) -> x.add(r, MOST, LEAST));
        comes("2^1023 and -2^1023", big(0), (x, r) -> x.add(r, TOP, MINUS_TOP));
        State halves = State.ofBig("", TWO_1023, TWO_1023.subtract(big(1)));
        halves.leaves("up to the greatest", x -> x.add(2, 0, 1), halves.with(2, GREATEST));
        State under = State.ofBig("", TWO_1023.negate(), big(1).subtract(TWO_1023));
        under.leaves("down to the least", x -> x.add(2, 0, 1), under.with(2, GREATEST.negate()));
    }

    private static void sumsTooGreat() {
        refused("the greatest and 1", Checks.TOO_GREAT, (x, r) -> x.add(r, MOST, ONE));
        refused("1 and the greatest", Checks.TOO_GREAT, (x, r) -> x.add(r, ONE, MOST));
        refused("the least and -1", Checks.TOO_GREAT, (x, r) -> x.add(r, LEAST, MINUS_ONE));
        refused("2^1023 twice", Checks.TOO_GREAT, (x, r) -> x.add(r, TOP, TOP));
        refused("-2^1023 twice", Checks.TOO_GREAT, (x, r) -> x.add(r, MINUS_TOP, MINUS_TOP));
        refused("the greatest twice", Checks.TOO_GREAT, (x, r) -> x.add(r, MOST, MOST));
        refused("the least twice", Checks.TOO_GREAT, (x, r) -> x.add(r, LEAST, LEAST));
    }

    private static void differencesJustWithin() {
        comes("the greatest less 0", GREATEST, (x, r) -> x.subtract(r, MOST, ZERO));
        comes("0 less the greatest", GREATEST.negate(), (x, r) -> x.subtract(r, ZERO, MOST));
        comes("0 less the least", GREATEST, (x, r) -> x.subtract(r, ZERO, LEAST));
        comes("the greatest less itself", big(0), (x, r) -> x.subtract(r, MOST, MOST));
        comes("the least less itself", big(0), (x, r) -> x.subtract(r, LEAST, LEAST));
        comes("the least less -1", GREATEST.negate().add(big(1)), (x, r) -> x.subtract(r, LEAST, MINUS_ONE));
        comes("the greatest less 1", GREATEST.subtract(big(1)), (x, r) -> x.subtract(r, MOST, ONE));
        comes("2^1023 less the greatest", big(1).subtract(TWO_1023), (x, r) -> x.subtract(r, TOP, MOST));
        comes("0 less 0", big(0), (x, r) -> x.subtract(r, ZERO, ZERO));
    }

    private static void differencesTooGreat() {
        refused("the greatest less -1", Checks.TOO_GREAT, (x, r) -> x.subtract(r, MOST, MINUS_ONE));
        refused("the least less 1", Checks.TOO_GREAT, (x, r) -> x.subtract(r, LEAST, ONE));
        refused("1 less the least", Checks.TOO_GREAT, (x, r) -> x.subtract(r, ONE, LEAST));
        refused("-1 less the greatest", Checks.TOO_GREAT, (x, r) -> x.subtract(r, MINUS_ONE, MOST));
        refused("2^1023 less -2^1023", Checks.TOO_GREAT, (x, r) -> x.subtract(r, TOP, MINUS_TOP));
        refused("-2^1023 less 2^1023", Checks.TOO_GREAT, (x, r) -> x.subtract(r, MINUS_TOP, TOP));
        refused("the least less the greatest", Checks.TOO_GREAT, (x, r) -> x.subtract(r, LEAST, MOST));
    }

    private static void productsJustWithin() {
        comes("the greatest times 1", GREATEST, (x, r) -> x.multiply(r, MOST, ONE));
        comes("-1 times the greatest", GREATEST.negate(), (x, r) -> x.multiply(r, MINUS_ONE, MOST));
        comes("the least times -1", GREATEST, (x, r) -> x.multiply(r, LEAST, MINUS_ONE));
        comes("the least times 0", big(0), (x, r) -> x.multiply(r, LEAST, ZERO));
        comes("0 times -7", big(0), (x, r) -> x.multiply(r, ZERO, MINUS_SEVEN));
        comes("0 times 0", big(0), (x, r) -> x.multiply(r, ZERO, ZERO));
        State parts = State.ofBig("", two(512).subtract(big(1)), two(512).add(big(1)), big(-3), GREATEST.divide(big(3)),
                two(512), two(511).negate());
        parts.leaves("2^512 - 1 times 2^512 + 1", x -> x.multiply(8, 0, 1), parts.with(8, GREATEST));
        parts.leaves("a third times -3", x -> x.multiply(8, 3, 2), parts.with(8, GREATEST.negate()));
        parts.leaves("2^512 times -2^511", x -> x.multiply(8, 4, 5), parts.with(8, TWO_1023.negate()));
    }

    private static void productsTooGreat() {
        refused("2^512 times 2^512", Checks.TOO_GREAT, (x, r) -> x.multiply(r, HALF, HALF));
        refused("the greatest times itself", Checks.TOO_GREAT, (x, r) -> x.multiply(r, MOST, MOST));
        refused("the least times itself", Checks.TOO_GREAT, (x, r) -> x.multiply(r, LEAST, LEAST));
        refused("the greatest times the least", Checks.TOO_GREAT, (x, r) -> x.multiply(r, MOST, LEAST));
        refused("-7 times the greatest", Checks.TOO_GREAT, (x, r) -> x.multiply(r, MINUS_SEVEN, MOST));
        State parts = State.ofBig("", two(512).negate(), two(512), TWO_1023, big(2), big(-2));
        parts.refuses("-2^512 times 2^512", Checks.TOO_GREAT, x -> x.multiply(8, 0, 1));
        parts.refuses("2^1023 times 2", Checks.TOO_GREAT, x -> x.multiply(8, 2, 3));
        parts.refuses("2^1023 times -2", Checks.TOO_GREAT, x -> x.multiply(8, 2, 4));
    }

    /** With each of the two results in a register of its own, and over one or both of the operands. */
    private static void divides(BigInteger a, BigInteger b, boolean down, BigInteger quotient, BigInteger rest) {
        State from = State.ofBig("kept", a, b, big(99), big(-99));
        for (int i = 0; i < 4; i++) {
            for (int k = 0; k < 4; k++) {
                int q = i;
                int r = k;
                if (q != r) {
                    from.leaves(a + " by " + b + " into " + q + " and " + r, x -> x.divide(q, r, 0, 1, down),
                            from.with(q, quotient).with(r, rest));
                }
            }
        }
    }

    private static void divides(long a, long b, boolean down, long quotient, long rest) {
        divides(big(a), big(b), down, big(quotient), big(rest));
    }

    private static void cutOff() {
        divides(7, 2, false, 3, 1);
        divides(-7, 2, false, -3, -1);
        divides(7, -2, false, -3, 1);
        divides(-7, -2, false, 3, -1);
        divides(8, 2, false, 4, 0);
        divides(-8, 2, false, -4, 0);
        divides(1, 2, false, 0, 1);
        divides(-1, 2, false, 0, -1);
        divides(1, -2, false, 0, 1);
        divides(-1, -2, false, 0, -1);
        divides(0, 2, false, 0, 0);
        divides(0, -2, false, 0, 0);
    }

    private static void cutDown() {
        divides(7, 2, true, 3, 1);
        divides(-7, 2, true, -4, 1);
        divides(7, -2, true, -4, -1);
        divides(-7, -2, true, 3, -1);
        divides(-8, 2, true, -4, 0);
        divides(8, -2, true, -4, 0);
        divides(1, 2, true, 0, 1);
        divides(-1, 2, true, -1, 1);
        divides(1, -2, true, -1, -1);
        divides(-1, -2, true, 0, -1);
        divides(-2, 2, true, -1, 0);
        divides(0, 2, true, 0, 0);
        divides(0, -2, true, 0, 0);
    }

    private static void outermostQuotients() {
        BigInteger least = GREATEST.negate();
        BigInteger below = GREATEST.subtract(big(1));
        for (boolean down : new boolean[] {false, true}) {
            divides(GREATEST, big(1), down, GREATEST, big(0));
            divides(GREATEST, big(-1), down, least, big(0));
            divides(least, big(-1), down, GREATEST, big(0));
            divides(GREATEST, GREATEST, down, big(1), big(0));
            divides(GREATEST, least, down, big(-1), big(0));
            divides(GREATEST, below, down, big(1), big(1));
            divides(below, GREATEST, down, big(0), below);
            divides(least, big(2), down, down ? TWO_1023.negate() : big(1).subtract(TWO_1023), big(down ? 1 : -1));
        }
        divides(big(-1), GREATEST, true, big(-1), below);
        divides(big(1), least, true, big(-1), below.negate());
        divides(least, below, true, big(-2), GREATEST.subtract(big(2)));
    }

    private static void sameRegister() {
        for (int i = 0; i < 12; i++) {
            int both = i;
            FROM.refuses("into " + both, Checks.ARGUMENT, x -> x.divide(both, both, SIX, MINUS_SEVEN, true));
            FROM.refuses("of itself into " + both, Checks.ARGUMENT, x -> x.divide(both, both, both, ONE, false));
        }
    }

    private static void dividedByZero() {
        for (int i = 0; i < 12; i++) {
            int a = i;
            FROM.refuses("register " + a, Checks.ARITHMETIC, x -> x.divide(SIX, ONE, a, ZERO, false));
            FROM.refuses("register " + a + ", down", Checks.ARITHMETIC, x -> x.divide(a, (a + 1) % 12, a, ZERO, true));
        }
    }

    private static void shiftedDown() {
        comes("-1 by -1", big(-1), (x, r) -> x.shift(r, MINUS_ONE, -1));
        comes("1 by -1", big(0), (x, r) -> x.shift(r, ONE, -1));
        comes("-7 by -1", big(-4), (x, r) -> x.shift(r, MINUS_SEVEN, -1));
        comes("-7 by -2", big(-2), (x, r) -> x.shift(r, MINUS_SEVEN, -2));
        comes("-7 by -3", big(-1), (x, r) -> x.shift(r, MINUS_SEVEN, -3));
        comes("15 by -3", big(1), (x, r) -> x.shift(r, FIFTEEN, -3));
        comes("15 by -4", big(0), (x, r) -> x.shift(r, FIFTEEN, -4));
        comes("the least by -1", TWO_1023.negate(), (x, r) -> x.shift(r, LEAST, -1));
        comes("the least by -1023", big(-2), (x, r) -> x.shift(r, LEAST, -1023));
        comes("the greatest by -1023", big(1), (x, r) -> x.shift(r, MOST, -1023));
        comes("-2^1023 by -1023", big(-1), (x, r) -> x.shift(r, MINUS_TOP, -1023));
        comes("2^512 by -512", big(1), (x, r) -> x.shift(r, HALF, -512));
        for (int k = 1; k < 1024; k += 7) {
            State from = State.ofBig("", two(k).negate(), two(k).negate().subtract(big(1)), two(k).subtract(big(1)));
            int n = -k;
            from.leaves("-2^k by -k, " + k, x -> x.shift(0, 0, n), from.with(0, -1));
            from.leaves("-2^k - 1 by -k, " + k, x -> x.shift(1, 1, n), from.with(1, -2));
            from.leaves("2^k - 1 by -k, " + k, x -> x.shift(2, 2, n), from.with(2, 0));
        }
    }

    private static void shiftedAway() {
        for (int n : new int[] {-1024, -1025, -2128, -65536, Integer.MIN_VALUE + 1, Integer.MIN_VALUE}) {
            comes("the greatest by " + n, big(0), (x, r) -> x.shift(r, MOST, n));
            comes("the least by " + n, big(-1), (x, r) -> x.shift(r, LEAST, n));
            comes("-1 by " + n, big(-1), (x, r) -> x.shift(r, MINUS_ONE, n));
            comes("0 by " + n, big(0), (x, r) -> x.shift(r, ZERO, n));
        }
    }

    private static void shiftedUpJustWithin() {
        comes("1 by 1023", TWO_1023, (x, r) -> x.shift(r, ONE, 1023));
        comes("-1 by 1023", TWO_1023.negate(), (x, r) -> x.shift(r, MINUS_ONE, 1023));
        comes("15 by 1020", big(15).shiftLeft(1020), (x, r) -> x.shift(r, FIFTEEN, 1020));
        comes("-7 by 1021", big(-7).shiftLeft(1021), (x, r) -> x.shift(r, MINUS_SEVEN, 1021));
        comes("2^512 - 1 by 512", two(1024).subtract(two(512)), (x, r) -> x.shift(r, BELOW_HALF, 512));
        comes("the greatest by 0", GREATEST, (x, r) -> x.shift(r, MOST, 0));
        comes("the least by 0", GREATEST.negate(), (x, r) -> x.shift(r, LEAST, 0));
        for (int n : new int[] {0, 1, 1023, 1024, 1025, 2128, 65536, Integer.MAX_VALUE}) {
            comes("0 by " + n, big(0), (x, r) -> x.shift(r, ZERO, n));
        }
    }

    private static void shiftedTooGreat() {
        refused("1 by 1024", Checks.TOO_GREAT, (x, r) -> x.shift(r, ONE, 1024));
        refused("-1 by 1024", Checks.TOO_GREAT, (x, r) -> x.shift(r, MINUS_ONE, 1024));
        refused("15 by 1021", Checks.TOO_GREAT, (x, r) -> x.shift(r, FIFTEEN, 1021));
        refused("-7 by 1022", Checks.TOO_GREAT, (x, r) -> x.shift(r, MINUS_SEVEN, 1022));
        refused("2^1023 by 1", Checks.TOO_GREAT, (x, r) -> x.shift(r, TOP, 1));
        refused("the greatest by 1", Checks.TOO_GREAT, (x, r) -> x.shift(r, MOST, 1));
        refused("the least by 1", Checks.TOO_GREAT, (x, r) -> x.shift(r, LEAST, 1));
        for (int n : new int[] {1025, 2047, 2048, 2128, 65536, Integer.MAX_VALUE - 1, Integer.MAX_VALUE}) {
            refused("1 by " + n, Checks.TOO_GREAT, (x, r) -> x.shift(r, ONE, n));
            refused("the least by " + n, Checks.TOO_GREAT, (x, r) -> x.shift(r, LEAST, n));
        }
    }

    private static void rootIs(BigInteger a, int k, BigInteger want) {
        State from = State.ofBig("kept", a, big(77));
        from.leaves("root " + k + " of " + a, x -> x.root(1, 0, k), from.with(1, want));
        from.leaves("root " + k + " of " + a + " over it", x -> x.root(0, 0, k), from.with(0, want));
    }

    private static void rootsAtPowers() {
        for (int k : new int[] {2, 3, 4, 5, 7, 10, 31, 64, 100, 511, 512}) {
            for (BigInteger base : new BigInteger[] {big(2), big(3), two(1024 / k).subtract(big(1))}) {
                BigInteger power = base.pow(k);
                if (!Numbers.isTooGreat(power) && base.compareTo(big(1)) > 0) {
                    rootIs(power.subtract(big(1)), k, base.subtract(big(1)));
                    rootIs(power, k, base);
                    rootIs(power.add(big(1)), k, base);
                }
            }
        }
        comes("second root of the greatest", two(512).subtract(big(1)), (x, r) -> x.root(r, MOST, 2));
        comes("first root of 6", big(6), (x, r) -> x.root(r, SIX, 1));
        comes("first root of 2^1023", TWO_1023, (x, r) -> x.root(r, TOP, 1));
        comes("second root of 6", big(2), (x, r) -> x.root(r, SIX, 2));
        comes("second root of 15", big(3), (x, r) -> x.root(r, FIFTEEN, 2));
        comes("first root of the greatest", GREATEST, (x, r) -> x.root(r, MOST, 1));
        comes("first root of 0", big(0), (x, r) -> x.root(r, ZERO, 1));
        comes("first root of 1", big(1), (x, r) -> x.root(r, ONE, 1));
        comes("second root of 0", big(0), (x, r) -> x.root(r, ZERO, 2));
        comes("second root of 1", big(1), (x, r) -> x.root(r, ONE, 2));
    }

    private static void greatDegrees() {
        rootIs(TWO_1023, 1023, big(2));
        rootIs(TWO_1023.subtract(big(1)), 1023, big(1));
        rootIs(TWO_1023, 1024, big(1));
        rootIs(GREATEST, 1023, big(2));
        rootIs(GREATEST, 1024, big(1));
        for (int k : new int[] {1025, 65536, 1 << 30, Integer.MAX_VALUE - 1, Integer.MAX_VALUE}) {
            rootIs(GREATEST, k, big(1));
            rootIs(big(2), k, big(1));
            rootIs(big(1), k, big(1));
            rootIs(big(0), k, big(0));
        }
    }

    private static void degreeBelowOne() {
        for (int k : new int[] {0, -1, -2, Integer.MIN_VALUE}) {
            refused("degree " + k + " of 6", Checks.ARGUMENT, (x, r) -> x.root(r, SIX, k));
            refused("degree " + k + " of 0", Checks.ARGUMENT, (x, r) -> x.root(r, ZERO, k));
        }
    }

    private static void rootBelowZero() {
        for (int k : new int[] {1, 2, 3, 1024, Integer.MAX_VALUE}) {
            refused("of -1, " + k, Checks.ARITHMETIC, (x, r) -> x.root(r, MINUS_ONE, k));
            refused("of the least, " + k, Checks.ARITHMETIC, (x, r) -> x.root(r, LEAST, k));
        }
    }

    private static void divisors() {
        comes("6 and 15", big(3), (x, r) -> x.gcd(r, SIX, FIFTEEN));
        comes("6 and 6", big(6), (x, r) -> x.gcd(r, SIX, SIX));
        comes("-7 and 0", big(7), (x, r) -> x.gcd(r, MINUS_SEVEN, ZERO));
        comes("0 and -7", big(7), (x, r) -> x.gcd(r, ZERO, MINUS_SEVEN));
        comes("-7 and -7", big(7), (x, r) -> x.gcd(r, MINUS_SEVEN, MINUS_SEVEN));
        comes("-1 and 0", big(1), (x, r) -> x.gcd(r, MINUS_ONE, ZERO));
        comes("-1 and -1", big(1), (x, r) -> x.gcd(r, MINUS_ONE, MINUS_ONE));
        comes("the least and 0", GREATEST, (x, r) -> x.gcd(r, LEAST, ZERO));
        comes("0 and the greatest", GREATEST, (x, r) -> x.gcd(r, ZERO, MOST));
        comes("the least and the greatest", GREATEST, (x, r) -> x.gcd(r, LEAST, MOST));
        comes("2^1023 and the greatest", big(1), (x, r) -> x.gcd(r, TOP, MOST));
        comes("-2^1023 and 2^512", two(512), (x, r) -> x.gcd(r, MINUS_TOP, HALF));
        comes("15 and the least", big(15), (x, r) -> x.gcd(r, FIFTEEN, LEAST));
    }

    private static void divisorOfZeros() {
        comes("0 and itself", big(0), (x, r) -> x.gcd(r, ZERO, ZERO));
        State zeros = State.of("", 0, 0, 5);
        zeros.leaves("0 and another 0", x -> x.gcd(2, 0, 1), zeros.with(2, 0));
    }

    private static void powersWithin() {
        comes("by 1", big(0), (x, r) -> x.power(r, SIX, FIFTEEN, ONE));
        comes("the greatest by 1", big(0), (x, r) -> x.power(r, MOST, SIX, ONE));
        comes("1 by the greatest", big(1), (x, r) -> x.power(r, ONE, FIFTEEN, MOST));
        comes("-1 to an odd one by 15", big(14), (x, r) -> x.power(r, MINUS_ONE, FIFTEEN, FIFTEEN));
        comes("-1 to an even one by 15", big(1), (x, r) -> x.power(r, MINUS_ONE, SIX, FIFTEEN));
        comes("-1 to 1 by the greatest", GREATEST.subtract(big(1)), (x, r) -> x.power(r, MINUS_ONE, ONE, MOST));
        comes("-7 to 1 by 6", big(5), (x, r) -> x.power(r, MINUS_SEVEN, ONE, SIX));
        comes("6 to 1 by 6", big(0), (x, r) -> x.power(r, SIX, ONE, SIX));
        comes("the greatest to 1 by itself", big(0), (x, r) -> x.power(r, MOST, ONE, MOST));
        comes("the least to itself turned", big(0), (x, r) -> x.power(r, LEAST, MOST, MOST));
        comes("0 to 1 by 6", big(0), (x, r) -> x.power(r, ZERO, ONE, SIX));
        comes("6 to the greatest by 15", big(6), (x, r) -> x.power(r, SIX, MOST, FIFTEEN));
        comes("2^1023 to 1 by the greatest", TWO_1023, (x, r) -> x.power(r, TOP, ONE, MOST));
        comes("-7 to 15 by 2^1023", big(-7).pow(15).mod(TWO_1023), (x, r) -> x.power(r, MINUS_SEVEN, FIFTEEN, TOP));
        BigInteger m = GREATEST.subtract(two(700)).subtract(big(4));
        State great = State.ofBig("", GREATEST.negate(), GREATEST, m);
        great.leaves("the least to the greatest", x -> x.power(3, 0, 1, 2),
                great.with(3, GREATEST.negate().modPow(GREATEST, m)));
    }

    private static void powerOfZero() {
        for (int i = 0; i < 12; i++) {
            int a = i;
            comes("register " + a + " by 6", big(1), (x, r) -> x.power(r, a, ZERO, SIX));
        }
        comes("0 by the greatest", big(1), (x, r) -> x.power(r, ZERO, ZERO, MOST));
        comes("0 by 1", big(0), (x, r) -> x.power(r, ZERO, ZERO, ONE));
        comes("6 by 1", big(0), (x, r) -> x.power(r, SIX, ZERO, ONE));
        State two = State.of("", 0, 0, 2);
        two.leaves("0 by 2", x -> x.power(3, 0, 1, 2), two.with(3, 1));
    }

    private static void powerModulus() {
        for (int i : new int[] {ZERO, MINUS_ONE, MINUS_SEVEN, LEAST}) {
            int m = i;
            refused("6 to 15 by register " + m, Checks.ARITHMETIC, (x, r) -> x.power(r, SIX, FIFTEEN, m));
            refused("0 to 0 by register " + m, Checks.ARITHMETIC, (x, r) -> x.power(r, ZERO, ZERO, m));
            refused("6 to -1 by register " + m, Checks.ARITHMETIC, (x, r) -> x.power(r, SIX, MINUS_ONE, m));
        }
    }

    private static void powerExponent() {
        for (int i : new int[] {MINUS_ONE, MINUS_SEVEN, LEAST}) {
            int e = i;
            refused("6 to register " + e, Checks.ARITHMETIC, (x, r) -> x.power(r, SIX, e, FIFTEEN));
            refused("1 to register " + e, Checks.ARITHMETIC, (x, r) -> x.power(r, ONE, e, FIFTEEN));
            refused("0 to register " + e + " by 1", Checks.ARITHMETIC, (x, r) -> x.power(r, ZERO, e, ONE));
        }
    }

    private static void inversesWithin() {
        comes("6 by 1", big(0), (x, r) -> x.inverse(r, SIX, ONE));
        comes("0 by 1", big(0), (x, r) -> x.inverse(r, ZERO, ONE));
        comes("-7 by 1", big(0), (x, r) -> x.inverse(r, MINUS_SEVEN, ONE));
        comes("1 by 6", big(1), (x, r) -> x.inverse(r, ONE, SIX));
        comes("-1 by 6", big(5), (x, r) -> x.inverse(r, MINUS_ONE, SIX));
        comes("-7 by 6", big(5), (x, r) -> x.inverse(r, MINUS_SEVEN, SIX));
        comes("-7 by 15", big(2), (x, r) -> x.inverse(r, MINUS_SEVEN, FIFTEEN));
        comes("1 by the greatest", big(1), (x, r) -> x.inverse(r, ONE, MOST));
        comes("-1 by the greatest", GREATEST.subtract(big(1)), (x, r) -> x.inverse(r, MINUS_ONE, MOST));
        comes("2^1023 by the greatest", big(2), (x, r) -> x.inverse(r, TOP, MOST));
        comes("-2^1023 by the greatest", GREATEST.subtract(big(2)), (x, r) -> x.inverse(r, MINUS_TOP, MOST));
        comes("the greatest by 2^1023", TWO_1023.subtract(big(1)), (x, r) -> x.inverse(r, MOST, TOP));
        comes("the least by 2^512", big(1), (x, r) -> x.inverse(r, LEAST, HALF));
        State two = State.of("", 2, -3);
        two.leaves("-3 by 2", x -> x.inverse(2, 1, 0), two.with(2, 1));
    }

    private static void inverseModulus() {
        for (int i : new int[] {ZERO, MINUS_ONE, MINUS_SEVEN, LEAST}) {
            int m = i;
            refused("6 by register " + m, Checks.ARITHMETIC, (x, r) -> x.inverse(r, SIX, m));
            refused("1 by register " + m, Checks.ARITHMETIC, (x, r) -> x.inverse(r, ONE, m));
        }
    }

    private static void noInverse() {
        refused("0 by 6", Checks.NONE, (x, r) -> x.inverse(r, ZERO, SIX));
        refused("6 by itself", Checks.NONE, (x, r) -> x.inverse(r, SIX, SIX));
        refused("6 by 15", Checks.NONE, (x, r) -> x.inverse(r, SIX, FIFTEEN));
        refused("15 by 6", Checks.NONE, (x, r) -> x.inverse(r, FIFTEEN, SIX));
        refused("0 by the greatest", Checks.NONE, (x, r) -> x.inverse(r, ZERO, MOST));
        refused("the least by the greatest", Checks.NONE, (x, r) -> x.inverse(r, LEAST, MOST));
        refused("15 by the greatest", Checks.NONE, (x, r) -> x.inverse(r, FIFTEEN, MOST));
        refused("2^512 by 2^1023", Checks.NONE, (x, r) -> x.inverse(r, HALF, TOP));
        State two = State.of("", 2, -4);
        two.refuses("-4 by 2", Checks.NONE, x -> x.inverse(1, 1, 0));
    }

    private static void comparedDue(BigInteger a, BigInteger b, int want) {
        State from = State.ofBig("kept", a, b);
        from.answers("compare " + a + " " + b, x -> x.compare(0, 1), want, from);
        from.answers("compare " + b + " " + a, x -> x.compare(1, 0), -want, from);
        from.answers("compare " + a + " with itself", x -> x.compare(0, 0), 0, from);
    }

    private static void neighboursCompared() {
        for (int k = 0; k < 1024; k += k < 70 ? 1 : 53) {
            for (int d = -1; d <= 1; d++) {
                BigInteger v = two(k).add(big(d));
                comparedDue(v, v.add(big(1)), -1);
                comparedDue(v, v, 0);
                comparedDue(v.negate(), v.add(big(1)).negate(), 1);
                comparedDue(v.negate(), v, -v.signum());
            }
        }
        comparedDue(GREATEST, GREATEST.subtract(big(1)), 1);
        comparedDue(GREATEST.negate(), GREATEST, -1);
        comparedDue(GREATEST.negate(), GREATEST.negate().add(big(1)), -1);
        comparedDue(GREATEST.negate(), big(0), -1);
    }

    private static void bitsDue(BigInteger v, int want) {
        State from = State.ofBig("kept", v);
        from.answers("bits of " + v, x -> x.bits(0), want, from);
    }

    private static void bitsAroundPowers() {
        bitsDue(big(0), 0);
        for (int k = 1; k < 1024; k++) {
            bitsDue(two(k).subtract(big(1)), k);
            bitsDue(two(k), k + 1);
            bitsDue(two(k).negate(), k + 1);
            bitsDue(two(k).subtract(big(1)).negate(), k);
        }
        bitsDue(GREATEST, 1024);
        bitsDue(GREATEST.negate(), 1024);
    }

    private static void bitDue(BigInteger v, int i, boolean want) {
        State from = State.ofBig("kept", v);
        from.answers("bit " + i + " of " + v, x -> x.bit(0, i), want, from);
    }

    private static void bitsOfPowers() {
        for (int k = 0; k < 1024; k += k < 70 ? 1 : 31) {
            for (int i = Math.max(k - 1, 0); i <= k + 1; i++) {
                bitDue(two(k), i, i == k);
                bitDue(two(k).negate(), i, i >= k);
                bitDue(two(k).subtract(big(1)), i, i < k);
                bitDue(two(k).negate().subtract(big(1)), i, i != k);
            }
        }
        bitDue(GREATEST, 1023, true);
        bitDue(GREATEST.negate(), 1023, false);
        bitDue(GREATEST.negate(), 0, true);
    }

    private static void bitsAboveAll() {
        for (int i : new int[] {1024, 1025, 2127, 2128, 65536, Integer.MAX_VALUE - 1, Integer.MAX_VALUE}) {
            bitDue(big(0), i, false);
            bitDue(big(1), i, false);
            bitDue(big(-1), i, true);
            bitDue(GREATEST, i, false);
            bitDue(GREATEST.negate(), i, true);
            bitDue(TWO_1023.negate(), i, true);
        }
    }

    private static void bitBelowZero() {
        for (int i : new int[] {-1, -2, -28, -64, Integer.MIN_VALUE}) {
            for (int r = 0; r < 12; r++) {
                int a = r;
                FROM.refuses("bit " + i + " of register " + a, Checks.INDEX, x -> x.bit(a, i));
            }
        }
    }

    private static void lowDue(BigInteger v, long want) {
        State from = State.ofBig("kept", v);
        from.answers("low of " + v, x -> x.low(0), want, from);
    }

    private static void lowWraps() {
        lowDue(two(63).subtract(big(1)), Long.MAX_VALUE);
        lowDue(two(63), Long.MIN_VALUE);
        lowDue(two(63).add(big(1)), Long.MIN_VALUE + 1);
        lowDue(two(63).negate(), Long.MIN_VALUE);
        lowDue(two(63).negate().subtract(big(1)), Long.MAX_VALUE);
        lowDue(two(64).subtract(big(1)), -1);
        lowDue(two(64), 0);
        lowDue(two(64).add(big(1)), 1);
        lowDue(two(64).negate(), 0);
        lowDue(two(64).negate().subtract(big(1)), -1);
        lowDue(two(64).negate().add(big(1)), 1);
        lowDue(two(65), 0);
        lowDue(TWO_1023, 0);
        lowDue(TWO_1023.negate(), 0);
        lowDue(GREATEST, -1);
        lowDue(GREATEST.negate(), 1);
        lowDue(big(0), 0);
    }
}
