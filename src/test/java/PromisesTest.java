import java.math.BigInteger;

/** Each promise of the document by itself: ordinary inputs, the edges it names, wrong inputs. */
public final class PromisesTest {
    private static final int[] NO_REGISTERS = {-1, 12, Integer.MIN_VALUE, Integer.MAX_VALUE};

    private PromisesTest() {
    }

    public static void main(String[] args) {
        promise1NewObject();
        promise2Set();
        promise3Copy();
        promise4Add();
        promise5Subtract();
        promise6Multiply();
        promise7Divide();
        promise7DivideWrong();
        promise8Shift();
        promise9Root();
        promise10Gcd();
        promise11Power();
        promise12Inverse();
        promise13Compare();
        promise14Bits();
        promise15Bit();
        promise16Low();
        promise17Type();
        promise18Wipe();
        promise19Parse();
        promise19ParseWrong();
        promise20Print();
        promise21Character();
        Checks.end();
    }

    private static BigInteger big(long v) {
        return BigInteger.valueOf(v);
    }

    private static BigInteger two(int n) {
        return BigInteger.ONE.shiftLeft(n);
    }

    private static void holds(String what, LimbRegisters x, int r, BigInteger want) {
        Checks.due(what, Numbers.drain(x, r), want);
    }

    private static void promise1NewObject() {
        LimbRegisters x = new LimbRegisters();
        for (int r = 0; r < 12; r++) {
            Checks.due("1: low of a new register", x.low(r), 0L);
            Checks.due("1: bits of a new register", x.bits(r), 0);
            Checks.due("1: bit of a new register", x.bit(r, 5000), false);
        }
        Checks.throwsDue("1: character of a new text", Checks.INDEX, () -> x.character(0));
        Checks.due("1: characters of a new text", x.wipe(), 0);
    }

    private static void promise2Set() {
        for (long v : new long[] {0, 1, -1, 268435455, 268435456, -268435457, 1L << 56, (1L << 56) - 1,
                Long.MAX_VALUE, Long.MIN_VALUE, Long.MIN_VALUE + 1}) {
            LimbRegisters x = new LimbRegisters();
            // Over a long number, so that nothing of it may stay.
            Numbers.load(x, 11, Numbers.GREATEST.negate());
            x.set(11, v);
            holds("2: set " + v, x, 11, big(v));
        }
        LimbRegisters x = new LimbRegisters();
        for (int r : NO_REGISTERS) {
            Checks.throwsDue("2: set of " + r, Checks.INDEX, () -> x.set(r, 1));
        }
    }

    private static void promise3Copy() {
        BigInteger v = two(1000).subtract(big(12345));
        LimbRegisters x = Numbers.with(v, v.negate());
        x.copy(2, 0, false);
        x.copy(3, 0, true);
        x.copy(4, 1, true);
        x.copy(5, 6, true);
        x.copy(0, 0, true);
        Checks.due("3: 0 turned is not below 0", x.compare(5, 6), 0);
        holds("3: copy", x, 2, v);
        holds("3: copy turned", x, 3, v.negate());
        holds("3: copy of one below 0, turned", x, 4, v);
        holds("3: copy onto itself, turned", x, 0, v.negate());
        holds("3: what was copied stays", x, 1, v.negate());
        for (int r : NO_REGISTERS) {
            Checks.throwsDue("3: copy to " + r, Checks.INDEX, () -> x.copy(r, 0, false));
            Checks.throwsDue("3: copy from " + r, Checks.INDEX, () -> x.copy(0, r, false));
        }
    }

    private static void promise4Add() {
        LimbRegisters x = Numbers.with(Numbers.GREATEST, Numbers.GREATEST.negate(), big(1), big(-1));
        x.add(4, 0, 1);
        Checks.due("4: to 0", x.bits(4), 0);
        Checks.throwsDue("4: 2^1024", Checks.TOO_GREAT, () -> x.add(4, 0, 2));
        Checks.throwsDue("4: -2^1024", Checks.TOO_GREAT, () -> x.add(4, 1, 3));
        Checks.throwsDue("4: twice the greatest", Checks.TOO_GREAT, () -> x.add(4, 0, 0));
        x.add(5, 0, 3);
        x.add(6, 2, 1);
        holds("4: one below the greatest", x, 5, Numbers.GREATEST.subtract(big(1)));
        holds("4: one above the least", x, 6, Numbers.GREATEST.negate().add(big(1)));
        x.add(7, 3, 3);
        Checks.due("4: -1 and -1", x.low(7), -2L);
        for (int r : NO_REGISTERS) {
            Checks.throwsDue("4: r " + r, Checks.INDEX, () -> x.add(r, 0, 0));
            Checks.throwsDue("4: a " + r, Checks.INDEX, () -> x.add(0, r, 0));
            Checks.throwsDue("4: b " + r, Checks.INDEX, () -> x.add(0, 0, r));
        }
    }

    private static void promise5Subtract() {
        LimbRegisters x = Numbers.with(Numbers.GREATEST, Numbers.GREATEST.negate(), big(1), big(-1), two(56));
        Checks.throwsDue("5: 2^1024", Checks.TOO_GREAT, () -> x.subtract(5, 0, 3));
        Checks.throwsDue("5: -2^1024", Checks.TOO_GREAT, () -> x.subtract(5, 1, 2));
        x.subtract(5, 0, 0);
        Checks.due("5: from itself", x.bits(5), 0);
        x.subtract(5, 2, 0);
        holds("5: 1 less the greatest", x, 5, big(2).subtract(two(1024)));
        x.subtract(6, 4, 2);
        Checks.due("5: borrows through limbs", x.low(6), (1L << 56) - 1);
        x.subtract(6, 7, 3);
        Checks.due("5: 0 less -1", x.low(6), 1L);
        x.subtract(6, 3, 7);
        Checks.due("5: -1 less 0", x.low(6), -1L);
        for (int r : NO_REGISTERS) {
            Checks.throwsDue("5: r " + r, Checks.INDEX, () -> x.subtract(r, 0, 0));
            Checks.throwsDue("5: a " + r, Checks.INDEX, () -> x.subtract(0, r, 0));
            Checks.throwsDue("5: b " + r, Checks.INDEX, () -> x.subtract(0, 0, r));
        }
    }

    private static void promise6Multiply() {
        BigInteger half = two(512).subtract(big(1));
        LimbRegisters x = Numbers.with(half, two(512), two(511), Numbers.GREATEST.negate(), big(-1));
        x.multiply(5, 0, 0);
        holds("6: square", x, 5, half.multiply(half));
        Checks.throwsDue("6: 2^1024", Checks.TOO_GREAT, () -> x.multiply(5, 1, 1));
        Checks.throwsDue("6: the greatest possible", Checks.TOO_GREAT, () -> x.multiply(5, 3, 3));
        x.multiply(5, 1, 2);
        holds("6: 2^1023", x, 5, two(1023));
        x.multiply(5, 3, 4);
        holds("6: two below 0", x, 5, Numbers.GREATEST);
        x.multiply(5, 3, 6);
        Checks.due("6: with 0 is not below 0", x.compare(5, 6), 0);
        x.multiply(5, 4, 0);
        holds("6: one below 0", x, 5, half.negate());
        for (int r : NO_REGISTERS) {
            Checks.throwsDue("6: r " + r, Checks.INDEX, () -> x.multiply(r, 0, 0));
            Checks.throwsDue("6: a " + r, Checks.INDEX, () -> x.multiply(0, r, 0));
            Checks.throwsDue("6: b " + r, Checks.INDEX, () -> x.multiply(0, 0, r));
        }
    }

    private static void divided(long a, long b, boolean down, long quotient, long rest) {
        LimbRegisters x = new LimbRegisters();
        x.set(0, a);
        x.set(1, b);
        x.divide(2, 3, 0, 1, down);
        Checks.due("7: " + a + " by " + b + " down " + down, x.low(2), quotient);
        Checks.due("7: rest of " + a + " by " + b + " down " + down, x.low(3), rest);
    }

    private static void promise7Divide() {
        divided(7, 3, false, 2, 1);
        divided(7, 3, true, 2, 1);
        divided(-7, 3, false, -2, -1);
        divided(-7, 3, true, -3, 2);
        divided(7, -3, false, -2, 1);
        divided(7, -3, true, -3, -2);
        divided(-7, -3, false, 2, -1);
        divided(-7, -3, true, 2, -1);
        divided(-6, 3, true, -2, 0);
        divided(6, -3, true, -2, 0);
        divided(0, -3, true, 0, 0);
        divided(-1, 5, true, -1, 4);
        divided(1, -5, true, -1, -4);
        divided(-1, 5, false, 0, -1);
        LimbRegisters x = Numbers.with(Numbers.GREATEST.negate(), big(1), Numbers.GREATEST);
        x.divide(3, 4, 0, 1, true);
        holds("7: the least by 1", x, 3, Numbers.GREATEST.negate());
        x.divide(3, 4, 1, 0, true);
        holds("7: rest of 1 by the least, down", x, 4, Numbers.GREATEST.negate().add(big(1)));
        Checks.due("7: 1 by the least, down", x.low(3), -1L);
        x.divide(0, 2, 0, 2, false);
        Checks.due("7: over what was divided", x.low(0), -1L);
        Checks.due("7: over what divided", x.low(2), 0L);
    }

    private static void promise7DivideWrong() {
        LimbRegisters x = new LimbRegisters();
        x.set(0, 5);
        Checks.throwsDue("7: by 0", Checks.ARITHMETIC, () -> x.divide(1, 2, 0, 3, true));
        Checks.throwsDue("7: 0 by 0", Checks.ARITHMETIC, () -> x.divide(1, 2, 3, 3, false));
        Checks.throwsDue("7: same register", Checks.ARGUMENT, () -> x.divide(1, 1, 0, 0, false));
        Checks.throwsDue("7: same register before by 0", Checks.ARGUMENT, () -> x.divide(1, 1, 0, 3, false));
        for (int r : NO_REGISTERS) {
            Checks.throwsDue("7: q " + r, Checks.INDEX, () -> x.divide(r, 1, 0, 3, false));
            Checks.throwsDue("7: r " + r, Checks.INDEX, () -> x.divide(1, r, 0, 3, false));
            Checks.throwsDue("7: a " + r, Checks.INDEX, () -> x.divide(1, 1, r, 3, false));
            Checks.throwsDue("7: b " + r, Checks.INDEX, () -> x.divide(1, 1, 0, r, false));
            Checks.throwsDue("7: q and r " + r, Checks.INDEX, () -> x.divide(r, r, 0, 3, false));
        }
    }

    private static void promise8Shift() {
        LimbRegisters x = Numbers.with(big(5), big(-5), Numbers.GREATEST.negate(), two(1023), big(-8));
        x.shift(5, 0, 1021);
        holds("8: up to 1024 bits", x, 5, big(5).shiftLeft(1021));
        Checks.throwsDue("8: 1025 bits", Checks.TOO_GREAT, () -> x.shift(5, 0, 1022));
        Checks.throwsDue("8: the most", Checks.TOO_GREAT, () -> x.shift(5, 1, Integer.MAX_VALUE));
        x.shift(5, 6, Integer.MAX_VALUE);
        Checks.due("8: 0 by the most", x.bits(5), 0);
        x.shift(5, 1, -1);
        Checks.due("8: -5 by -1", x.low(5), -3L);
        x.shift(5, 4, -3);
        Checks.due("8: -8 by -3", x.low(5), -1L);
        x.shift(5, 4, -2);
        Checks.due("8: -8 by -2", x.low(5), -2L);
        x.shift(5, 2, -1);
        holds("8: the least by -1", x, 5, two(1023).negate());
        x.shift(5, 3, -1023);
        Checks.due("8: 2^1023 by -1023", x.low(5), 1L);
        for (int n : new int[] {-1024, -1025, -100000, Integer.MIN_VALUE}) {
            x.shift(5, 2, n);
            Checks.due("8: the least by " + n, x.low(5), -1L);
            x.shift(5, 3, n);
            Checks.due("8: 2^1023 by " + n, x.bits(5), 0);
        }
        x.shift(5, 2, 0);
        Checks.due("8: by 0", x.compare(5, 2), 0);
        for (int r : NO_REGISTERS) {
            Checks.throwsDue("8: r " + r, Checks.INDEX, () -> x.shift(r, 0, 5000));
            Checks.throwsDue("8: a " + r, Checks.INDEX, () -> x.shift(0, r, 0));
        }
    }

    private static void promise9Root() {
        BigInteger cube = two(340).subtract(big(7)).pow(3);
        LimbRegisters x = Numbers.with(cube, cube.subtract(big(1)), Numbers.GREATEST, big(1), big(-1));
        x.root(5, 0, 3);
        holds("9: of a cube", x, 5, two(340).subtract(big(7)));
        x.root(5, 1, 3);
        holds("9: of one below a cube", x, 5, two(340).subtract(big(8)));
        x.root(5, 2, 1);
        Checks.due("9: first root", x.compare(5, 2), 0);
        x.root(5, 2, 1023);
        Checks.due("9: 1023rd root", x.low(5), 2L);
        x.root(5, 2, 1024);
        Checks.due("9: 1024th root", x.low(5), 1L);
        x.root(5, 3, Integer.MAX_VALUE);
        Checks.due("9: root of 1", x.low(5), 1L);
        x.root(5, 6, Integer.MAX_VALUE);
        Checks.due("9: root of 0", x.bits(5), 0);
        Checks.throwsDue("9: k 0", Checks.ARGUMENT, () -> x.root(5, 0, 0));
        Checks.throwsDue("9: k below 0", Checks.ARGUMENT, () -> x.root(5, 0, Integer.MIN_VALUE));
        Checks.throwsDue("9: of -1", Checks.ARITHMETIC, () -> x.root(5, 4, 3));
        Checks.throwsDue("9: k before -1", Checks.ARGUMENT, () -> x.root(5, 4, 0));
        for (int r : NO_REGISTERS) {
            Checks.throwsDue("9: r " + r, Checks.INDEX, () -> x.root(r, 4, 0));
            Checks.throwsDue("9: a " + r, Checks.INDEX, () -> x.root(0, r, 0));
        }
    }

    private static void promise10Gcd() {
        BigInteger common = two(300).subtract(big(153));
        LimbRegisters x = Numbers.with(common.multiply(big(35)), common.multiply(big(-22)), Numbers.GREATEST.negate());
        x.gcd(3, 0, 1);
        holds("10: common divisor", x, 3, common);
        x.gcd(3, 4, 2);
        holds("10: of 0 and the least", x, 3, Numbers.GREATEST);
        x.gcd(3, 2, 4);
        holds("10: of the least and 0", x, 3, Numbers.GREATEST);
        x.gcd(3, 4, 5);
        Checks.due("10: of 0 and 0", x.bits(3), 0);
        x.set(5, -12);
        x.set(6, -18);
        x.gcd(3, 5, 6);
        Checks.due("10: of two below 0", x.low(3), 6L);
        for (int r : NO_REGISTERS) {
            Checks.throwsDue("10: r " + r, Checks.INDEX, () -> x.gcd(r, 0, 0));
            Checks.throwsDue("10: a " + r, Checks.INDEX, () -> x.gcd(0, r, 0));
            Checks.throwsDue("10: b " + r, Checks.INDEX, () -> x.gcd(0, 0, r));
        }
    }

    private static void raised(long a, long e, long m, long want) {
        LimbRegisters x = new LimbRegisters();
        x.set(0, a);
        x.set(1, e);
        x.set(2, m);
        x.power(3, 0, 1, 2);
        Checks.due("11: " + a + " to " + e + " by " + m, x.low(3), want);
    }

    private static void promise11Power() {
        raised(3, 5, 7, 5);
        raised(-3, 5, 7, 2);
        raised(-3, 4, 7, 4);
        raised(10, 1, 7, 3);
        raised(-7, 3, 7, 0);
        raised(0, 0, 7, 1);
        raised(0, 0, 1, 0);
        raised(5, 0, 1, 0);
        raised(0, 9, 7, 0);
        raised(-1, Long.MAX_VALUE, Long.MAX_VALUE, Long.MAX_VALUE - 1);
        BigInteger a = Numbers.GREATEST.negate();
        BigInteger m = Numbers.GREATEST.subtract(two(500));
        LimbRegisters x = Numbers.with(a, Numbers.GREATEST, m, big(-1));
        x.power(4, 0, 1, 2);
        holds("11: of the greatest", x, 4, a.modPow(Numbers.GREATEST, m));
        Checks.throwsDue("11: by 0", Checks.ARITHMETIC, () -> x.power(4, 0, 1, 5));
        Checks.throwsDue("11: by -1", Checks.ARITHMETIC, () -> x.power(4, 0, 1, 3));
        Checks.throwsDue("11: to -1", Checks.ARITHMETIC, () -> x.power(4, 0, 3, 2));
        for (int r : NO_REGISTERS) {
            Checks.throwsDue("11: r " + r, Checks.INDEX, () -> x.power(r, 0, 0, 5));
            Checks.throwsDue("11: a " + r, Checks.INDEX, () -> x.power(0, r, 0, 5));
            Checks.throwsDue("11: e " + r, Checks.INDEX, () -> x.power(0, 0, r, 5));
            Checks.throwsDue("11: m " + r, Checks.INDEX, () -> x.power(0, 0, 3, r));
        }
    }

    private static void inverted(long a, long m, long want) {
        LimbRegisters x = new LimbRegisters();
        x.set(0, a);
        x.set(1, m);
        x.inverse(2, 0, 1);
        Checks.due("12: " + a + " by " + m, x.low(2), want);
    }

    private static void promise12Inverse() {
        inverted(3, 7, 5);
        inverted(-3, 7, 2);
        inverted(10, 7, 5);
        inverted(1, 2, 1);
        inverted(1, 7, 1);
        inverted(-1, 7, 6);
        inverted(0, 1, 0);
        inverted(5, 1, 0);
        inverted(-5, 1, 0);
        BigInteger m = Numbers.GREATEST;
        BigInteger a = two(1023).negate();
        LimbRegisters x = Numbers.with(a, m, big(-7), big(15));
        x.inverse(4, 0, 1);
        holds("12: of 2^1023 by the greatest", x, 4, a.modInverse(m));
        Checks.throwsDue("12: by 0", Checks.ARITHMETIC, () -> x.inverse(4, 0, 5));
        Checks.throwsDue("12: by -7", Checks.ARITHMETIC, () -> x.inverse(4, 0, 2));
        Checks.throwsDue("12: by -7, without one", Checks.ARITHMETIC, () -> x.inverse(4, 5, 2));
        Checks.throwsDue("12: of 0", Checks.NONE, () -> x.inverse(4, 5, 3));
        x.set(6, 6);
        Checks.throwsDue("12: of 6 by 15", Checks.NONE, () -> x.inverse(4, 6, 3));
        Checks.throwsDue("12: of 15 by 15", Checks.NONE, () -> x.inverse(4, 3, 3));
        for (int r : NO_REGISTERS) {
            Checks.throwsDue("12: r " + r, Checks.INDEX, () -> x.inverse(r, 0, 5));
            Checks.throwsDue("12: a " + r, Checks.INDEX, () -> x.inverse(0, r, 5));
            Checks.throwsDue("12: m " + r, Checks.INDEX, () -> x.inverse(0, 5, r));
        }
    }

    private static void promise13Compare() {
        BigInteger[] rising = {Numbers.GREATEST.negate(), two(600).negate(), two(28).negate(), big(-1),
            big(0), big(1), two(28), two(28).add(big(1)), two(600), Numbers.GREATEST.subtract(big(1)),
            Numbers.GREATEST};
        LimbRegisters x = Numbers.with(rising);
        for (int a = 0; a < rising.length; a++) {
            for (int b = 0; b < rising.length; b++) {
                Checks.due("13: " + a + " and " + b, x.compare(a, b), Integer.compare(a, b));
            }
        }
        for (int r : NO_REGISTERS) {
            Checks.throwsDue("13: a " + r, Checks.INDEX, () -> x.compare(r, 0));
            Checks.throwsDue("13: b " + r, Checks.INDEX, () -> x.compare(0, r));
        }
    }

    private static void promise14Bits() {
        for (BigInteger v : Numbers.edges()) {
            LimbRegisters x = Numbers.with(v);
            Checks.due("14: bits of " + v, x.bits(0), v.abs().bitLength());
        }
        LimbRegisters x = new LimbRegisters();
        x.set(0, -4);
        Checks.due("14: bits of -4", x.bits(0), 3);
        for (int r : NO_REGISTERS) {
            Checks.throwsDue("14: a " + r, Checks.INDEX, () -> x.bits(r));
        }
    }

    private static void promise15Bit() {
        for (BigInteger v : Numbers.edges()) {
            LimbRegisters x = Numbers.with(v);
            for (int i : new int[] {0, 1, 2, 27, 28, 29, 55, 56, 63, 64, 511, 512, 1007, 1008, 1022,
                    1023, 1024, 1025, 2127, 2128, 100000, Integer.MAX_VALUE}) {
                Checks.due("15: bit " + i + " of " + v, x.bit(0, i), v.testBit(i));
            }
        }
        LimbRegisters x = new LimbRegisters();
        Checks.throwsDue("15: i -1", Checks.INDEX, () -> x.bit(0, -1));
        Checks.throwsDue("15: i least", Checks.INDEX, () -> x.bit(0, Integer.MIN_VALUE));
        for (int r : NO_REGISTERS) {
            Checks.throwsDue("15: a " + r, Checks.INDEX, () -> x.bit(r, 0));
        }
    }

    private static void promise16Low() {
        for (BigInteger v : Numbers.edges()) {
            LimbRegisters x = Numbers.with(v);
            Checks.due("16: low of " + v, x.low(0), v.longValue());
        }
        LimbRegisters x = new LimbRegisters();
        for (int r : NO_REGISTERS) {
            Checks.throwsDue("16: a " + r, Checks.INDEX, () -> x.low(r));
        }
    }

    private static void promise17Type() {
        LimbRegisters x = new LimbRegisters();
        Checks.due("17: eight", x.type(Numbers.packed("aB ~9-z!"), 8), 8);
        Checks.due("17: the lowest two of them", x.type(0xff00000000000000L | Numbers.packed("xyz"), 2), 10);
        Checks.due("17: the text", Numbers.textOf(x), "aB ~9-z!yz");
        for (int n : new int[] {0, -1, 9, Integer.MIN_VALUE, Integer.MAX_VALUE}) {
            Checks.throwsDue("17: n " + n, Checks.ARGUMENT, () -> x.type(Numbers.packed("aaaaaaaa"), n));
        }
        for (int code : new int[] {0, 31, 127, 128, 255}) {
            Checks.throwsDue("17: code " + code, Checks.ARGUMENT, () -> x.type(code, 1));
            Checks.throwsDue("17: code " + code + " last", Checks.ARGUMENT, () -> x.type(0x6100L | code, 2));
            Checks.throwsDue("17: code " + code + " first", Checks.ARGUMENT,
                    () -> x.type((long) code << 56 | Numbers.packed("aaaaaaa"), 8));
        }
        Checks.due("17: nothing came of these", Numbers.textOf(x), "aB ~9-z!yz");
        for (int i = 0; i < 148; i++) {
            x.type(Numbers.packed("cccccccc"), 8);
        }
        Checks.throwsDue("17: 1201", Checks.STATE, () -> x.type(Numbers.packed("ddddddd"), 7));
        Checks.throwsDue("17: a wrong code before 1201", Checks.ARGUMENT, () -> x.type(127, 7));
        Checks.due("17: 1200", x.type(Numbers.packed("abcdef"), 6), 1200);
        Checks.throwsDue("17: one more", Checks.STATE, () -> x.type(97, 1));
        Checks.throwsDue("17: n before the count", Checks.ARGUMENT, () -> x.type(97, 0));
        Checks.due("17: the last", x.character(1199), (int) 'f');
        Checks.due("17: how many there are", x.wipe(), 1200);
    }

    private static void promise18Wipe() {
        LimbRegisters x = new LimbRegisters();
        x.set(3, 77);
        x.type(Numbers.packed("abc"), 3);
        Checks.due("18: wipe", x.wipe(), 3);
        Checks.throwsDue("18: no character is left", Checks.INDEX, () -> x.character(0));
        Checks.due("18: wipe again", x.wipe(), 0);
        Checks.due("18: the text begins anew", x.type('a', 1), 1);
        Checks.due("18: registers stay", x.low(3), 77L);
    }

    private static void parsed(String text, int radix, int digits, BigInteger want) {
        LimbRegisters x = new LimbRegisters();
        Numbers.load(x, 4, Numbers.GREATEST.negate());
        Numbers.typeAll(x, text);
        Checks.due("19: digits of " + text, x.parse(4, radix), digits);
        Checks.due("19: the text is empty after " + text, x.wipe(), 0);
        holds("19: number of " + text, x, 4, want);
    }

    private static void promise19Parse() {
        parsed("0", 2, 1, big(0));
        parsed("-0", 2, 1, big(0));
        parsed("-000", 36, 3, big(0));
        parsed("-0012", 10, 4, big(-12));
        parsed("zZ", 36, 2, big(35 * 36 + 35));
        parsed("aBcDeF", 16, 6, big(0xabcdef));
        parsed("-Az9", 36, 3, big(-(10 * 1296 + 35 * 36 + 9)));
        parsed("0".repeat(1199) + "1", 10, 1200, big(1));
        parsed("-" + "0".repeat(1199), 10, 1199, big(0));
        parsed("1".repeat(1024), 2, 1024, Numbers.GREATEST);
        parsed("-" + "0".repeat(100) + "1".repeat(1024), 2, 1124, Numbers.GREATEST.negate());
        for (int radix = 2; radix <= 36; radix++) {
            String most = Numbers.GREATEST.toString(radix);
            parsed("-" + most, radix, most.length(), Numbers.GREATEST.negate());
        }
    }

    private static void parsedWrong(String text, int radix, Class<? extends RuntimeException> want) {
        LimbRegisters x = new LimbRegisters();
        x.set(4, 99);
        Numbers.typeAll(x, text);
        Checks.throwsDue("19: " + text + " in " + radix, want, () -> x.parse(4, radix));
        Checks.due("19: the number stays with " + text, x.low(4), 99L);
        Checks.due("19: the text stays with " + text, x.wipe(), text.length());
    }

    private static void promise19ParseWrong() {
        for (String text : new String[] {"", "-", "--1", "1-", "+1", " 1", "1 ", "1.0", "2", "-12", "1a", "/", ":"}) {
            parsedWrong(text, 2, Checks.STATE);
        }
        parsedWrong("a", 10, Checks.STATE);
        parsedWrong("z", 35, Checks.STATE);
        parsedWrong("Z", 35, Checks.STATE);
        for (String text : new String[] {"@", "[", "`", "{", "~", "z_"}) {
            parsedWrong(text, 36, Checks.STATE);
        }
        for (int radix = 2; radix <= 36; radix++) {
            parsedWrong(Numbers.LIMIT.toString(radix), radix, Checks.TOO_GREAT);
            parsedWrong("-" + Numbers.LIMIT.toString(radix), radix, Checks.TOO_GREAT);
        }
        parsedWrong("z".repeat(1200), 36, Checks.TOO_GREAT);
        parsedWrong("z".repeat(1199) + "!", 36, Checks.STATE);
        for (int radix : new int[] {1, 0, -2, 37, Integer.MIN_VALUE, Integer.MAX_VALUE}) {
            parsedWrong("1", radix, Checks.ARGUMENT);
            parsedWrong("", radix, Checks.ARGUMENT);
        }
        LimbRegisters x = new LimbRegisters();
        for (int r : NO_REGISTERS) {
            Checks.throwsDue("19: r " + r, Checks.INDEX, () -> x.parse(r, 1));
        }
    }

    private static void promise20Print() {
        for (BigInteger v : new BigInteger[] {big(0), big(1), big(-1), big(35), big(-36), Numbers.GREATEST.negate(),
            two(1023), big(Long.MIN_VALUE)}) {
            for (int radix = 2; radix <= 36; radix += v.bitLength() > 64 ? 34 : 1) {
                LimbRegisters x = Numbers.with(v);
                Numbers.typeAll(x, "what was there before");
                String want = v.toString(radix);
                Checks.due("20: length of " + want, x.print(0, radix), want.length());
                Checks.due("20: first of " + want, x.character(0), (int) want.charAt(0));
                Checks.due("20: last of " + want, x.character(want.length() - 1), (int) want.charAt(want.length() - 1));
                if (want.length() < 300) {
                    Checks.due("20: all of " + want, Numbers.textOf(x), want);
                }
                Checks.due("20: the number stays, " + want, x.low(0), v.longValue());
                Checks.due("20: no more than " + want, x.wipe(), want.length());
            }
        }
        LimbRegisters x = new LimbRegisters();
        Numbers.typeAll(x, "kept");
        for (int radix : new int[] {1, 0, -10, 37, Integer.MIN_VALUE, Integer.MAX_VALUE}) {
            Checks.throwsDue("20: radix " + radix, Checks.ARGUMENT, () -> x.print(0, radix));
        }
        for (int r : NO_REGISTERS) {
            Checks.throwsDue("20: a " + r, Checks.INDEX, () -> x.print(r, 1));
        }
        Checks.due("20: the text stays", Numbers.textOf(x), "kept");
    }

    private static void promise21Character() {
        LimbRegisters x = new LimbRegisters();
        Numbers.typeAll(x, " a~");
        Checks.due("21: first", x.character(0), 32);
        Checks.due("21: second", x.character(1), 97);
        Checks.due("21: third", x.character(2), 126);
        for (int i : new int[] {3, -1, 1199, 1200, Integer.MIN_VALUE, Integer.MAX_VALUE}) {
            Checks.throwsDue("21: i " + i, Checks.INDEX, () -> x.character(i));
        }
    }
}
