import java.math.BigInteger;

/** "Of several exceptions that could be thrown the one that its comment names first is", call by call. */
public final class FirstExceptionTest {
    private static final int[] NO_REGISTERS = {-1, 12};
    private static final int MOST = 0;
    private static final int LEAST = 1;
    private static final int ZERO = 2;
    private static final int SIX = 3;
    private static final int MINUS_SIX = 4;
    private static final State FROM = State.ofBig("no numeral", Numbers.GREATEST, Numbers.GREATEST.negate(),
            BigInteger.ZERO, BigInteger.valueOf(6), BigInteger.valueOf(-6));

    private FirstExceptionTest() {
    }

    public static void main(String[] args) {
        for (int none : NO_REGISTERS) {
            Checks.sentence("4: register before too great", () -> addRegister(none));
            Checks.sentence("5: register before too great", () -> subtractRegister(none));
            Checks.sentence("6: register before too great", () -> multiplyRegister(none));
            Checks.sentence("7: register before same register, and before 0", () -> divideRegister(none));
            Checks.sentence("8: register before too great", () -> shiftRegister(none));
            Checks.sentence("9: register before degree, and before below 0", () -> rootRegister(none));
            Checks.sentence("11: register before modulus and exponent", () -> powerRegister(none));
            Checks.sentence("12: register before modulus, and before no inverse", () -> inverseRegister(none));
            Checks.sentence("19: register before radix, numeral and too great", () -> parseRegister(none));
            Checks.sentence("20: register before radix", () -> printRegister(none));
        }
        Checks.sentence("7: same register before 0", FirstExceptionTest::sameRegisterBeforeZero);
        Checks.sentence("9: degree before below 0", FirstExceptionTest::degreeBeforeBelowZero);
        Checks.sentence("12: modulus before no inverse", FirstExceptionTest::modulusBeforeNoInverse);
        Checks.sentence("17: how many and which before more than 1200", FirstExceptionTest::bytesBeforeFull);
        Checks.sentence("19: radix before numeral, and before too great", FirstExceptionTest::radixBeforeText);
        Checks.sentence("19: numeral before too great", FirstExceptionTest::numeralBeforeTooGreat);
        Checks.end();
    }

    private static void addRegister(int none) {
        FROM.refuses("the greatest", Checks.INDEX, x -> x.add(none, MOST, MOST));
        FROM.refuses("the least", Checks.INDEX, x -> x.add(none, LEAST, LEAST));
    }

    private static void subtractRegister(int none) {
        FROM.refuses("the greatest less the least", Checks.INDEX, x -> x.subtract(none, MOST, LEAST));
        FROM.refuses("the least less 6", Checks.INDEX, x -> x.subtract(none, LEAST, SIX));
    }

    private static void multiplyRegister(int none) {
        FROM.refuses("the greatest times 6", Checks.INDEX, x -> x.multiply(none, MOST, SIX));
        FROM.refuses("-6 times the greatest", Checks.INDEX, x -> x.multiply(none, MINUS_SIX, MOST));
    }

    private static void divideRegister(int none) {
        FROM.refuses("a, same register", Checks.INDEX, x -> x.divide(SIX, SIX, none, SIX, false));
        FROM.refuses("b, same register", Checks.INDEX, x -> x.divide(SIX, SIX, SIX, none, false));
        FROM.refuses("q and r, same register", Checks.INDEX, x -> x.divide(none, none, SIX, SIX, true));
        FROM.refuses("q, by 0", Checks.INDEX, x -> x.divide(none, SIX, SIX, ZERO, true));
        FROM.refuses("r, by 0", Checks.INDEX, x -> x.divide(SIX, none, SIX, ZERO, true));
        FROM.refuses("a, by 0", Checks.INDEX, x -> x.divide(SIX, MOST, none, ZERO, false));
        FROM.refuses("a, same register, by 0", Checks.INDEX, x -> x.divide(SIX, SIX, none, ZERO, false));
        FROM.refuses("q and r, by 0", Checks.INDEX, x -> x.divide(none, none, SIX, ZERO, false));
    }

    private static void shiftRegister(int none) {
        FROM.refuses("r", Checks.INDEX, x -> x.shift(none, MOST, 1));
        FROM.refuses("r, the most", Checks.INDEX, x -> x.shift(none, LEAST, Integer.MAX_VALUE));
        FROM.refuses("a, the most", Checks.INDEX, x -> x.shift(SIX, none, Integer.MAX_VALUE));
    }

    private static void rootRegister(int none) {
        FROM.refuses("r, degree", Checks.INDEX, x -> x.root(none, SIX, 0));
        FROM.refuses("a, degree", Checks.INDEX, x -> x.root(SIX, none, Integer.MIN_VALUE));
        FROM.refuses("r, below 0", Checks.INDEX, x -> x.root(none, MINUS_SIX, 2));
        FROM.refuses("r, degree, below 0", Checks.INDEX, x -> x.root(none, MINUS_SIX, -1));
    }

    private static void powerRegister(int none) {
        FROM.refuses("r, modulus", Checks.INDEX, x -> x.power(none, SIX, SIX, ZERO));
        FROM.refuses("a, modulus", Checks.INDEX, x -> x.power(SIX, none, SIX, MINUS_SIX));
        FROM.refuses("e, modulus", Checks.INDEX, x -> x.power(SIX, SIX, none, ZERO));
        FROM.refuses("r, exponent", Checks.INDEX, x -> x.power(none, SIX, MINUS_SIX, SIX));
        FROM.refuses("a, exponent", Checks.INDEX, x -> x.power(SIX, none, MINUS_SIX, SIX));
        FROM.refuses("m, exponent", Checks.INDEX, x -> x.power(SIX, SIX, MINUS_SIX, none));
    }

    private static void inverseRegister(int none) {
        FROM.refuses("r, modulus", Checks.INDEX, x -> x.inverse(none, SIX, ZERO));
        FROM.refuses("a, modulus", Checks.INDEX, x -> x.inverse(SIX, none, MINUS_SIX));
        FROM.refuses("r, no inverse", Checks.INDEX, x -> x.inverse(none, ZERO, SIX));
        FROM.refuses("m, no inverse", Checks.INDEX, x -> x.inverse(SIX, ZERO, none));
    }

    private static void parseRegister(int none) {
        FROM.refuses("numeral", Checks.INDEX, x -> x.parse(none, 10));
        FROM.refuses("radix and numeral", Checks.INDEX, x -> x.parse(none, 37));
        FROM.withText("1").refuses("radix", Checks.INDEX, x -> x.parse(none, 1));
        FROM.withText("").refuses("empty", Checks.INDEX, x -> x.parse(none, 2));
        FROM.withText("z".repeat(1200)).refuses("too great", Checks.INDEX, x -> x.parse(none, 36));
    }

    private static void printRegister(int none) {
        for (int radix : new int[] {1, 37, Integer.MIN_VALUE, Integer.MAX_VALUE}) {
            FROM.refuses("radix " + radix, Checks.INDEX, x -> x.print(none, radix));
        }
    }

    private static void sameRegisterBeforeZero() {
        for (int i = 0; i < 12; i++) {
            int both = i;
            FROM.refuses("into " + both, Checks.ARGUMENT, x -> x.divide(both, both, SIX, ZERO, false));
            FROM.refuses("into " + both + ", down", Checks.ARGUMENT, x -> x.divide(both, both, ZERO, ZERO, true));
        }
    }

    private static void degreeBeforeBelowZero() {
        for (int k : new int[] {0, -1, Integer.MIN_VALUE}) {
            FROM.refuses("degree " + k, Checks.ARGUMENT, x -> x.root(SIX, MINUS_SIX, k));
            FROM.refuses("degree " + k + " of the least", Checks.ARGUMENT, x -> x.root(LEAST, LEAST, k));
        }
    }

    private static void modulusBeforeNoInverse() {
        FROM.refuses("0 by 0", Checks.ARITHMETIC, x -> x.inverse(SIX, ZERO, ZERO));
        FROM.refuses("0 by -6", Checks.ARITHMETIC, x -> x.inverse(SIX, ZERO, MINUS_SIX));
        FROM.refuses("6 by -6", Checks.ARITHMETIC, x -> x.inverse(SIX, SIX, MINUS_SIX));
        FROM.refuses("6 by 0", Checks.ARITHMETIC, x -> x.inverse(SIX, SIX, ZERO));
    }

    private static void bytesBeforeFull() {
        State full = FROM.withText("x".repeat(1200));
        for (int n : new int[] {0, -1, 9, Integer.MIN_VALUE, Integer.MAX_VALUE}) {
            full.refuses("n " + n, Checks.ARGUMENT, x -> x.type(Numbers.packed("aaaaaaaa"), n));
        }
        for (int code : new int[] {0, 31, 127, 255}) {
            full.refuses("code " + code, Checks.ARGUMENT, x -> x.type(code, 1));
            full.refuses("code " + code + " behind one", Checks.ARGUMENT, x -> x.type('a' << 8 | code, 2));
            full.refuses("code " + code + " before one", Checks.ARGUMENT, x -> x.type(code << 8 | 'a', 2));
            FROM.withText("x".repeat(1199)).refuses("code " + code + " where one would fit", Checks.ARGUMENT,
                    x -> x.type('a' << 8 | code, 2));
        }
    }

    private static void radixBeforeText() {
        for (int radix : new int[] {1, 0, -10, 37, Integer.MIN_VALUE, Integer.MAX_VALUE}) {
            FROM.refuses("numeral, radix " + radix, Checks.ARGUMENT, x -> x.parse(SIX, radix));
            FROM.withText("").refuses("empty, radix " + radix, Checks.ARGUMENT, x -> x.parse(SIX, radix));
            FROM.withText("z".repeat(1200)).refuses("too great, radix " + radix, Checks.ARGUMENT,
                    x -> x.parse(SIX, radix));
        }
    }

    private static void numeralBeforeTooGreat() {
        for (int radix = 2; radix <= 36; radix++) {
            int at = radix;
            for (String wrong : new String[] {" ", "-", "~", "/", ":", "@", "[", "`", "{"}) {
                FROM.withText("1".repeat(1199) + wrong).refuses("last " + wrong + ", radix " + radix, Checks.STATE,
                        x -> x.parse(SIX, at));
            }
            FROM.withText("--" + "1".repeat(1198)).refuses("two -, radix " + radix, Checks.STATE,
                    x -> x.parse(SIX, at));
        }
    }
}
