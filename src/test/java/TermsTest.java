import java.math.BigInteger;
import java.util.Arrays;

/** The boundary cases that the document names before its promises: registers, numbers, what a throw leaves. */
public final class TermsTest {
    private static final int[] NO_REGISTERS = {-1, 12, Integer.MIN_VALUE, Integer.MAX_VALUE};
    private static final BigInteger GREATEST = Numbers.GREATEST;
    private static final BigInteger LEAST = GREATEST.negate();

    /** Prime numbers, so that no call with a register of its own for each part is refused. */
    private static final State PRIMES = State.of("101", 2, 3, 5, 7, 11, 13, 17, 19, 23, 29, 31, 37);

    private TermsTest() {
    }

    public static void main(String[] args) {
        Checks.sentence("An object is used for at most 512 calls", TermsTest::allCallsOfAnObject);
        Checks.sentence("REGISTERS are 0 .. 11", TermsTest::firstAndLastRegister);
        Checks.sentence("IndexOutOfBoundsException, where nothing else is said: one of the registers is none",
                TermsTest::noRegister);
        Checks.sentence("a NUMBER, above -2^1024 and below 2^1024", TermsTest::outermostNumbers);
        Checks.sentence("at first 0", TermsTest::registersAtFirst);
        Checks.sentence("A result that is no such number is TOO GREAT", TermsTest::tooGreat);
        Checks.sentence("A register may be named several times in a call: what it had before the call is what is"
                + " worked with", TermsTest::namedSeveralTimes);
        Checks.sentence("A call that throws changes nothing", TermsTest::thrownAway);
        Checks.end();
    }

    private static void allCallsOfAnObject() {
        LimbRegisters x = new LimbRegisters();
        x.set(0, 1);
        for (int i = 1; i < 511; i++) {
            x.add(0, 0, 0);
        }
        Checks.due("the 512th call", x.bits(0), 511);
    }

    /** Every call with registers, and arguments with which PRIMES refuses none of them. */
    private static long[] ordinary(String name) {
        switch (name) {
            case "set":
                return new long[] {3, -9};
            case "copy":
                return new long[] {3, 4, 1};
            case "divide":
                return new long[] {3, 4, 5, 6, 1};
            case "shift": case "root":
                return new long[] {3, 4, 2};
            case "bit":
                return new long[] {3, 1};
            case "parse": case "print":
                return new long[] {3, 2};
            default:
                return Arrays.copyOf(new long[] {3, 4, 5, 6}, Calls.registersOf(name));
        }
    }

    private static void firstAndLastRegister() {
        for (String name : Calls.NAMES) {
            for (int place = 0; place < Calls.registersOf(name); place++) {
                for (long r : new long[] {0, 11}) {
                    long[] with = ordinary(name);
                    with[place] = r;
                    PRIMES.goesAsTheModel(name, with);
                }
            }
        }
    }

    private static void noRegister() {
        for (String name : Calls.NAMES) {
            for (int place = 0; place < Calls.registersOf(name); place++) {
                for (int r : NO_REGISTERS) {
                    long[] with = ordinary(name);
                    with[place] = r;
                    PRIMES.refuses(name + Arrays.toString(with), Checks.INDEX, x -> Calls.call(x, name, with));
                }
            }
            noneOfThem(name);
        }
    }

    private static void noneOfThem(String name) {
        int registers = Calls.registersOf(name);
        if (registers > 0) {
            long[] with = ordinary(name);
            Arrays.fill(with, 0, registers, 12);
            PRIMES.refuses(name + Arrays.toString(with), Checks.INDEX, x -> Calls.call(x, name, with));
        }
    }

    private static void outermostNumbers() {
        BigInteger half = BigInteger.ONE.shiftLeft(1023);
        State from = State.ofBig("-" + "1".repeat(1024), GREATEST, LEAST, BigInteger.ONE, half,
                half.subtract(BigInteger.ONE), BigInteger.ONE.negate());
        from.leaves("copy", x -> x.copy(8, 0, false), from.with(8, GREATEST));
        from.leaves("copy turned", x -> x.copy(8, 0, true), from.with(8, LEAST));
        from.leaves("add", x -> x.add(8, 3, 4), from.with(8, GREATEST));
        from.leaves("add of 0", x -> x.add(8, 1, 9), from.with(8, LEAST));
        from.leaves("subtract", x -> x.subtract(8, 9, 0), from.with(8, LEAST));
        from.leaves("multiply", x -> x.multiply(8, 1, 5), from.with(8, GREATEST));
        from.leaves("divide", x -> x.divide(8, 9, 0, 5, false), from.with(8, LEAST));
        from.leaves("divide down", x -> x.divide(8, 9, 1, 5, true), from.with(8, GREATEST));
        from.leaves("rest", x -> x.divide(9, 8, 5, 0, true),
                from.with(9, -1).with(8, GREATEST.subtract(BigInteger.ONE)));
        from.leaves("shift", x -> x.shift(8, 1, 0), from.with(8, LEAST));
        from.leaves("root", x -> x.root(8, 0, 1), from.with(8, GREATEST));
        from.leaves("gcd", x -> x.gcd(8, 1, 9), from.with(8, GREATEST));
        from.answers("parse", x -> x.parse(8, 2), 1024, from.with(8, LEAST).withText(""));
        from.answers("print", x -> x.print(0, 2), 1024, from.withText("1".repeat(1024)));
    }

    private static void registersAtFirst() {
        LimbRegisters x = new LimbRegisters();
        for (int r = 0; r < 12; r++) {
            Checks.due("register " + r, Numbers.drain(x, r), BigInteger.ZERO);
        }
    }

    private static void tooGreat() {
        State from = State.ofBig("1" + "0".repeat(1024), GREATEST, LEAST, BigInteger.ONE,
                BigInteger.ONE.shiftLeft(512), BigInteger.ONE.shiftLeft(512).negate());
        from.refuses("add, 2^1024", Checks.TOO_GREAT, x -> x.add(8, 0, 2));
        from.refuses("subtract, -2^1024", Checks.TOO_GREAT, x -> x.subtract(8, 1, 2));
        from.refuses("multiply, 2^1024", Checks.TOO_GREAT, x -> x.multiply(8, 3, 3));
        from.refuses("multiply, -2^1024", Checks.TOO_GREAT, x -> x.multiply(8, 3, 4));
        from.refuses("shift, 2^1024", Checks.TOO_GREAT, x -> x.shift(8, 2, 1024));
        from.refuses("shift, -2^1024", Checks.TOO_GREAT, x -> x.shift(8, 4, 512));
        from.refuses("parse, 2^1024", Checks.TOO_GREAT, x -> x.parse(8, 2));
        State below = from.withText("-1" + "0".repeat(1024));
        below.refuses("parse, -2^1024", Checks.TOO_GREAT, x -> x.parse(8, 2));
    }

    private static void namedSeveralTimes() {
        for (long[] four : new long[][] {{17, 5, 12, 7}, {-17, 5, 3, 8}, {5, -17, 9, 4}, {-6, -35, 11, 13}}) {
            namedSeveralTimes(State.of("77", four));
        }
        BigInteger long1 = GREATEST.shiftRight(3);
        BigInteger long2 = LEAST.shiftRight(600);
        namedSeveralTimes(State.ofBig("77", long1, long2, BigInteger.TEN, long1.shiftRight(900)));
        namedSeveralTimes(State.ofBig("77", long2, BigInteger.valueOf(3), long2.negate(), long1));
    }

    private static void namedSeveralTimes(State from) {
        for (String name : Calls.NAMES) {
            if (Calls.registersOf(name) > 1) {
                everyNaming(from, name, ordinary(name), 0, 0);
            }
        }
    }

    /** Every way in which some of a call's registers may be the same: the places before this one are filled. */
    private static void everyNaming(State from, String name, long[] with, int place, int others) {
        if (place == Calls.registersOf(name)) {
            from.goesAsTheModel(name, with);
            return;
        }
        for (int r = 0; r <= others; r++) {
            with[place] = r;
            everyNaming(from, name, with, place + 1, Math.max(others, r + 1));
        }
    }

    /** One call of each kind of exception, over registers and a text that it would have changed. */
    private static void thrownAway() {
        State from = State.ofBig("12x", GREATEST, LEAST, BigInteger.ONE, BigInteger.ZERO, BigInteger.valueOf(-6),
                BigInteger.valueOf(15));
        from.refuses("copy", Checks.INDEX, x -> x.copy(0, 12, true));
        from.refuses("add", Checks.TOO_GREAT, x -> x.add(2, 0, 2));
        from.refuses("subtract", Checks.TOO_GREAT, x -> x.subtract(1, 1, 2));
        from.refuses("multiply", Checks.TOO_GREAT, x -> x.multiply(4, 4, 0));
        from.refuses("divide, same register", Checks.ARGUMENT, x -> x.divide(4, 4, 4, 5, true));
        from.refuses("divide by 0", Checks.ARITHMETIC, x -> x.divide(4, 5, 4, 3, true));
        from.refuses("divide, no rest register", Checks.INDEX, x -> x.divide(4, 12, 4, 5, true));
        from.refuses("shift", Checks.TOO_GREAT, x -> x.shift(4, 4, 1022));
        from.refuses("root, degree", Checks.ARGUMENT, x -> x.root(5, 5, 0));
        from.refuses("root", Checks.ARITHMETIC, x -> x.root(4, 4, 3));
        from.refuses("gcd", Checks.INDEX, x -> x.gcd(4, 5, -1));
        from.refuses("power by 0", Checks.ARITHMETIC, x -> x.power(4, 5, 5, 3));
        from.refuses("power, exponent", Checks.ARITHMETIC, x -> x.power(5, 5, 4, 5));
        from.refuses("inverse by 0", Checks.ARITHMETIC, x -> x.inverse(4, 5, 3));
        from.refuses("inverse", Checks.NONE, x -> x.inverse(5, 4, 5));
        from.refuses("type, how many", Checks.ARGUMENT, x -> x.type(Numbers.packed("abcdefgh"), 9));
        from.refuses("type, last code", Checks.ARGUMENT, x -> x.type(Numbers.packed("abc") << 8, 4));
        from.refuses("parse, numeral", Checks.STATE, x -> x.parse(5, 10));
        from.refuses("parse, radix", Checks.ARGUMENT, x -> x.parse(5, 37));
        from.refuses("print, radix", Checks.ARGUMENT, x -> x.print(5, 37));
        from.refuses("character", Checks.INDEX, x -> x.character(3));
        State full = from.withText("1".repeat(1199));
        full.refuses("type, full", Checks.STATE, x -> x.type(Numbers.packed("23"), 2));
        full.refuses("parse, too great", Checks.TOO_GREAT, x -> x.parse(5, 10));
    }
}
