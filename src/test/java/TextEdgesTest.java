import java.math.BigInteger;

/** The boundary cases of the text and of promises 17 to 21, sentence by sentence. */
public final class TextEdgesTest {
    private static final int MOST_CHARACTERS = 1200;
    private static final BigInteger GREATEST = Numbers.GREATEST;
    private static final String EIGHT = "aB ~9-z!";
    private static final int[] NO_RADIXES = {1, 0, -1, -2, -36, 37, 38, 64, Integer.MIN_VALUE, Integer.MAX_VALUE};

    private TextEdgesTest() {
    }

    public static void main(String[] args) {
        Checks.sentence("THE TEXT is a row of at most 1200 CHARACTERS", TextEdgesTest::filled);
        Checks.sentence("with the codes 32 .. 126", TextEdgesTest::everyCode);
        Checks.sentence("at first empty", TextEdgesTest::emptyAtFirst);
        Checks.sentence("A NUMERAL is one digit or more", TextEdgesTest::noDigit);
        Checks.sentence("perhaps with one - in front of them", TextEdgesTest::signs);
        Checks.sentence("DIGITS are 0 .. 9 and then a .. z, or A .. Z", TextEdgesTest::everyCharacterAsDigit);
        Checks.sentence("all of them below b", TextEdgesTest::digitsBelowRadix);
        Checks.sentence("Zeros may stand in front", TextEdgesTest::zerosInFront);
        Checks.sentence("and - before zeros alone, too", TextEdgesTest::signBeforeZeros);
        Checks.sentence("17: the n lowest bytes, the highest of them first: how many it has then",
                TextEdgesTest::lowestBytes);
        Checks.sentence("17: IllegalArgumentException: n is not 1 .. 8", TextEdgesTest::howManyBytes);
        Checks.sentence("17: IllegalArgumentException: or one of them is not 32 .. 126", TextEdgesTest::noCharacter);
        Checks.sentence("17: IllegalStateException: it would have more than 1200", TextEdgesTest::overfilled);
        Checks.sentence("18: The text is empty then: how many characters it had", TextEdgesTest::wiped);
        Checks.sentence("19: the text is empty: how many digits it had", TextEdgesTest::digitsCounted);
        Checks.sentence("19: Register r gets the number that the text is", TextEdgesTest::outermostNumerals);
        Checks.sentence("19: IllegalArgumentException: radix is not 2 .. 36", TextEdgesTest::parseRadix);
        Checks.sentence("19: IllegalStateException: the text is no such numeral", TextEdgesTest::noNumeral);
        Checks.sentence("19: UnsupportedOperationException: the number is too great", TextEdgesTest::numeralTooGreat);
        Checks.sentence("20: without zeros in front (but for 0 itself)", TextEdgesTest::zeroPrinted);
        Checks.sentence("20: with small letters", TextEdgesTest::smallLetters);
        Checks.sentence("20: - in front only when it is below 0", TextEdgesTest::signPrinted);
        Checks.sentence("20: The text becomes the number of a: how many characters it has",
                TextEdgesTest::outermostPrinted);
        Checks.sentence("20: IllegalArgumentException: radix is not 2 .. 36", TextEdgesTest::printRadix);
        Checks.sentence("21: The code of character i of the text (from 0)", TextEdgesTest::firstAndLastCharacter);
        Checks.sentence("21: IndexOutOfBoundsException: there is none", TextEdgesTest::noSuchCharacter);
        Checks.end();
    }

    /** A text of so many characters, no two neighbours of which are the same. */
    private static String textOf(int length) {
        StringBuilder text = new StringBuilder();
        for (int i = 0; i < length; i++) {
            text.append((char) (32 + i * 7 % 95));
        }
        return text.toString();
    }

    /** Registers that no call on the text alone changes. */
    private static State withText(String text) {
        return State.ofBig(text, GREATEST, BigInteger.ONE.negate(), BigInteger.valueOf(99), GREATEST.negate());
    }

    private static void typed(String before, long characters, int n, String added) {
        State from = withText(before);
        from.answers("type " + Long.toHexString(characters) + " " + n + " behind " + before.length(),
                x -> x.type(characters, n), before.length() + n, from.withText(before + added));
    }

    private static void filled() {
        for (int n = 1; n <= 8; n++) {
            typed(textOf(MOST_CHARACTERS - n), Numbers.packed(EIGHT), n, EIGHT.substring(8 - n));
        }
        State full = withText(textOf(MOST_CHARACTERS));
        full.answers("the last of 1200", x -> x.character(1199), 32 + 1199 * 7 % 95, full);
        full.refuses("1201", Checks.STATE, x -> x.type('a', 1));
    }

    private static void everyCode() {
        for (int code = 0; code < 256; code++) {
            for (int place = 0; place < 8; place++) {
                codeAt(code, place);
            }
        }
    }

    /** A code between seven characters, so many of them behind it. */
    private static void codeAt(int code, int place) {
        long around = Numbers.packed(EIGHT) & ~(255L << (8 * place));
        long characters = around | (long) code << (8 * place);
        if (code >= 32 && code <= 126) {
            StringBuilder added = new StringBuilder(EIGHT);
            added.setCharAt(7 - place, (char) code);
            typed("", characters, 8, added.toString());
        } else {
            withText("x").refuses("code " + code + " at " + place, Checks.ARGUMENT, x -> x.type(characters, 8));
        }
    }

    private static void emptyAtFirst() {
        State.of("").answers("wipe", LimbRegisters::wipe, 0, State.of(""));
        State.of("").refuses("character", Checks.INDEX, x -> x.character(0));
        typed("", 'a', 1, "a");
    }

    private static void parsed(String text, int radix, int digits, BigInteger want) {
        State from = withText(text);
        for (int i : new int[] {0, 2, 11}) {
            int r = i;
            from.answers("parse " + text + " in " + radix + " into " + r, x -> x.parse(r, radix), digits,
                    from.with(r, want).withText(""));
        }
    }

    private static void parsed(String text, int radix, int digits, long want) {
        parsed(text, radix, digits, BigInteger.valueOf(want));
    }

    private static void unparsed(String text, int radix, Class<? extends RuntimeException> want) {
        State from = withText(text);
        for (int i : new int[] {0, 2, 11}) {
            int r = i;
            from.refuses("parse " + text + " in " + radix + " into " + r, want, x -> x.parse(r, radix));
        }
    }

    private static void noDigit() {
        for (int radix = 2; radix <= 36; radix++) {
            unparsed("", radix, Checks.STATE);
            unparsed("-", radix, Checks.STATE);
            parsed("1", radix, 1, 1);
            parsed("0", radix, 1, 0);
        }
    }

    private static void signs() {
        parsed("-1", 2, 1, -1);
        parsed("-z", 36, 1, -35);
        for (String text : new String[] {"--1", "-1-", "1-", "1-1", "--", "---", "0-", "-0-0", "+1", "-+1", "+-1",
            " -1", "- 1", "-1 "}) {
            unparsed(text, 2, Checks.STATE);
            unparsed(text, 36, Checks.STATE);
        }
    }

    /** The digit that a character is, by the document's words, or -1. */
    private static int digitOf(char character) {
        int small = "0123456789abcdefghijklmnopqrstuvwxyz".indexOf(character);
        return small >= 0 ? small : "0123456789ABCDEFGHIJKLMNOPQRSTUVWXYZ".indexOf(character);
    }

    private static void everyCharacterAsDigit() {
        for (char c = 32; c <= 126; c++) {
            for (int radix : new int[] {2, 10, 11, 35, 36}) {
                int digit = digitOf(c);
                if (digit >= 0 && digit < radix) {
                    parsed("" + c, radix, 1, digit);
                    parsed("-1" + c, radix, 2, -radix - digit);
                    parsed(c + "1", radix, 2, digit * radix + 1);
                } else {
                    unparsed("" + c, radix, Checks.STATE);
                    unparsed("-1" + c, radix, Checks.STATE);
                    unparsed("0" + c + "1", radix, Checks.STATE);
                }
            }
        }
    }

    private static void digitsBelowRadix() {
        for (int radix = 2; radix <= 36; radix++) {
            String greatest = Integer.toString(radix - 1, 36);
            parsed(greatest, radix, 1, radix - 1);
            parsed(greatest.toUpperCase(), radix, 1, radix - 1);
            if (radix < 36) {
                String none = Integer.toString(radix, 36);
                unparsed(none, radix, Checks.STATE);
                unparsed(none.toUpperCase(), radix, Checks.STATE);
                unparsed("-1" + none, radix, Checks.STATE);
                unparsed(none.toUpperCase() + "1", radix, Checks.STATE);
            }
        }
    }

    private static void zerosInFront() {
        parsed("00", 2, 2, 0);
        parsed("007", 8, 3, 7);
        parsed("-0007", 8, 4, -7);
        parsed("0".repeat(1200), 36, 1200, 0);
        parsed("0".repeat(1199) + "z", 36, 1200, 35);
        parsed("-" + "0".repeat(1198) + "z", 36, 1199, -35);
        parsed("0".repeat(176) + "1".repeat(1024), 2, 1200, GREATEST);
        parsed("-" + "0".repeat(175) + "1".repeat(1024), 2, 1199, GREATEST.negate());
    }

    private static void signBeforeZeros() {
        parsed("-0", 10, 1, 0);
        parsed("-00", 2, 2, 0);
        parsed("-" + "0".repeat(1199), 36, 1199, 0);
        State minusZero = State.of("-0", 0);
        minusZero.answers("the 0 of -0, printed", x -> {
            x.parse(0, 10);
            return x.print(0, 10);
        }, 1, State.of("0"));
        minusZero.answers("the 0 of -0, compared with 0", x -> {
            x.parse(0, 10);
            return x.compare(0, 1);
        }, 0, State.of(""));
    }

    private static void lowestBytes() {
        for (int n = 1; n <= 8; n++) {
            String added = EIGHT.substring(8 - n);
            // Bytes above these are no characters of it, whatever they are.
            long above = n == 8 ? 0 : -1L << (8 * n);
            typed("", Numbers.packed(added), n, added);
            typed("", above | Numbers.packed(added), n, added);
            typed("before", above ^ Numbers.packed(EIGHT), n, added);
        }
    }

    private static void howManyBytes() {
        for (int n : new int[] {0, -1, 9, 10, 16, 1200, Integer.MIN_VALUE, Integer.MIN_VALUE + 8, Integer.MAX_VALUE}) {
            withText("").refuses("n " + n, Checks.ARGUMENT, x -> x.type(Numbers.packed(EIGHT), n));
            withText("before").refuses("n " + n, Checks.ARGUMENT, x -> x.type(Numbers.packed(EIGHT), n));
        }
    }

    private static void noCharacter() {
        for (int code : new int[] {0, 31, 127, 128, 160, 255}) {
            for (int n = 1; n <= 8; n++) {
                for (int place = 0; place < n; place++) {
                    int count = n;
                    long characters = Numbers.packed(EIGHT) & ~(255L << (8 * place)) | (long) code << (8 * place);
                    withText("12").refuses("code " + code + " at " + place + " of " + n, Checks.ARGUMENT,
                            x -> x.type(characters, count));
                }
            }
        }
        typed("", 32, 1, " ");
        typed("", 126, 1, "~");
    }

    private static void overfilled() {
        for (int free = 0; free < 8; free++) {
            for (int n = free + 1; n <= 8; n++) {
                int count = n;
                withText(textOf(MOST_CHARACTERS - free)).refuses(n + " into " + free, Checks.STATE,
                        x -> x.type(Numbers.packed(EIGHT), count));
            }
        }
    }

    private static void wiped() {
        for (int length : new int[] {0, 1, 8, 1199, 1200}) {
            State from = withText(textOf(length));
            from.answers("wipe of " + length, LimbRegisters::wipe, length, from.withText(""));
            from.answers("wipe again after " + length, x -> {
                x.wipe();
                return x.wipe();
            }, 0, from.withText(""));
            from.answers("type after the wipe of " + length, x -> {
                x.wipe();
                return x.type('a', 1);
            }, 1, from.withText("a"));
        }
        State printed = State.of("", -255);
        printed.answers("wipe of what was printed", x -> {
            x.print(0, 16);
            return x.wipe();
        }, 3, printed);
        State read = State.of("-ff", 0);
        read.answers("wipe of what was parsed", x -> {
            x.parse(0, 16);
            return x.wipe();
        }, 0, State.of("", -255));
    }

    private static void digitsCounted() {
        parsed("0", 10, 1, 0);
        parsed("-0", 10, 1, 0);
        parsed("-5", 10, 1, -5);
        parsed("0005", 10, 4, 5);
        parsed("-00050", 10, 5, -50);
        parsed("1".repeat(64), 2, 64, new BigInteger("1".repeat(64), 2));
    }

    private static void outermostNumerals() {
        for (int radix = 2; radix <= 36; radix++) {
            String most = GREATEST.toString(radix);
            parsed(most, radix, most.length(), GREATEST);
            parsed("-" + most.toUpperCase(), radix, most.length(), GREATEST.negate());
            parsed("0" + most, radix, most.length() + 1, GREATEST);
            parsed("-10", radix, 2, -radix);
        }
    }

    private static void parseRadix() {
        for (int radix : NO_RADIXES) {
            unparsed("1", radix, Checks.ARGUMENT);
            unparsed("0", radix, Checks.ARGUMENT);
            unparsed("-10", radix, Checks.ARGUMENT);
        }
        parsed("10", 2, 2, 2);
        parsed("10", 36, 2, 36);
    }

    private static void noNumeral() {
        for (int radix = 2; radix <= 36; radix++) {
            for (String text : new String[] {"", "-", " ", "1 ", " 1", "1.", "1,0", "0x1", "1_0", "--1", "1-", "+1"}) {
                if (radix < 34 || !text.equals("0x1")) {
                    unparsed(text, radix, Checks.STATE);
                }
            }
            unparsed("1" + "0".repeat(1198) + "~", radix, Checks.STATE);
            unparsed("~" + "0".repeat(1199), radix, Checks.STATE);
        }
    }

    private static void numeralTooGreat() {
        for (int radix = 2; radix <= 36; radix++) {
            String limit = Numbers.LIMIT.toString(radix);
            unparsed(limit, radix, Checks.TOO_GREAT);
            unparsed("-" + limit, radix, Checks.TOO_GREAT);
            unparsed("00" + limit.toUpperCase(), radix, Checks.TOO_GREAT);
            unparsed(GREATEST.toString(radix) + "0", radix, Checks.TOO_GREAT);
            unparsed(Integer.toString(radix - 1, 36).repeat(1200), radix, Checks.TOO_GREAT);
            unparsed("-1" + "0".repeat(1198), radix, Checks.TOO_GREAT);
        }
    }

    private static void printed(BigInteger v, int radix, String want) {
        for (String before : new String[] {"", "before", textOf(1200)}) {
            State from = State.ofBig(before, BigInteger.ONE, v, BigInteger.TEN.negate());
            from.answers("print " + v + " in " + radix, x -> x.print(1, radix), want.length(), from.withText(want));
        }
    }

    private static void printed(long v, int radix, String want) {
        printed(BigInteger.valueOf(v), radix, want);
    }

    private static void zeroPrinted() {
        for (int radix = 2; radix <= 36; radix++) {
            printed(0, radix, "0");
            printed(1, radix, "1");
            printed(radix, radix, "10");
            printed((long) radix * radix, radix, "100");
            printed((long) radix * radix - 1, radix, Integer.toString(radix - 1, 36).repeat(2));
        }
    }

    private static void smallLetters() {
        for (int digit = 0; digit < 36; digit++) {
            for (int radix = Math.max(2, digit + 1); radix <= 36; radix++) {
                printed(digit, radix, "0123456789abcdefghijklmnopqrstuvwxyz".substring(digit, digit + 1));
            }
        }
    }

    private static void signPrinted() {
        for (int radix = 2; radix <= 36; radix++) {
            printed(-1, radix, "-1");
            printed(-radix, radix, "-10");
        }
        printed(-35, 36, "-z");
        printed(Long.MIN_VALUE, 16, "-8000000000000000");
        printed(Long.MAX_VALUE, 16, "7fffffffffffffff");
        State zeros = State.of("", 0, -5);
        zeros.answers("0 made of -5", x -> {
            x.subtract(1, 1, 1);
            return x.print(1, 10);
        }, 1, State.of("0"));
        zeros.answers("0 made by a division of -5", x -> {
            x.set(2, 7);
            x.divide(1, 2, 1, 2, false);
            return x.print(1, 10);
        }, 1, State.of("0", 0, 0, -5));
        zeros.answers("0 made by a product with -5", x -> {
            x.multiply(1, 1, 0);
            return x.print(1, 10);
        }, 1, State.of("0"));
    }

    private static void outermostPrinted() {
        for (int radix = 2; radix <= 36; radix++) {
            printed(GREATEST, radix, GREATEST.toString(radix));
            printed(GREATEST.negate(), radix, GREATEST.negate().toString(radix));
        }
    }

    private static void printRadix() {
        for (int radix : NO_RADIXES) {
            for (String before : new String[] {"", "-12", textOf(1200)}) {
                withText(before).refuses("radix " + radix, Checks.ARGUMENT, x -> x.print(0, radix));
                withText(before).refuses("radix " + radix + " of 0", Checks.ARGUMENT, x -> x.print(11, radix));
            }
        }
        printed(5, 2, "101");
        printed(36, 36, "10");
    }

    private static void firstAndLastCharacter() {
        for (int length : new int[] {1, 2, 8, 9, 1199, 1200}) {
            String text = textOf(length);
            State from = withText(text);
            from.answers("first of " + length, x -> x.character(0), (int) text.charAt(0), from);
            from.answers("last of " + length, x -> x.character(length - 1), (int) text.charAt(length - 1), from);
        }
        for (int code = 32; code <= 126; code++) {
            State from = withText(String.valueOf((char) code));
            from.answers("code " + code, x -> x.character(0), code, from);
        }
    }

    private static void noSuchCharacter() {
        for (int length : new int[] {0, 1, 8, 1199, 1200}) {
            State from = withText(textOf(length));
            for (int i : new int[] {length, length + 1, 1200, -1, -2, Integer.MIN_VALUE, Integer.MAX_VALUE}) {
                from.refuses("character " + i + " of " + length, Checks.INDEX, x -> x.character(i));
            }
        }
        goneDue("wipe", LimbRegisters::wipe, 0);
        goneDue("parse", x -> x.parse(0, 10), 0);
        goneDue("print", x -> x.print(1, 10), 1);
    }

    private static void goneDue(String what, java.util.function.Consumer<LimbRegisters> call, int left) {
        LimbRegisters x = new LimbRegisters();
        Numbers.typeAll(x, "12345");
        call.accept(x);
        Checks.throwsDue("a character that " + what + " took away", Checks.INDEX, () -> x.character(left));
    }
}
