import java.math.BigInteger;
import java.util.Arrays;
import java.util.function.Consumer;
import java.util.function.Function;

/**
 * What the registers hold and what the text is. A call is tried on new objects in this state, as many as it
 * takes to look at all that the call left: one object has 512 calls, and looking needs many of them.
 */
final class State {
    private static final int REGISTERS = 12;
    private static final int REGISTERS_A_LOOK = 3;
    private static final int CHARACTERS_A_LOOK = 200;

    private final BigInteger[] numbers;
    private final String text;

    private State(String text, BigInteger[] numbers) {
        this.text = text;
        this.numbers = numbers;
    }

    /** The registers from 0 on hold these numbers, the others 0. */
    static State ofBig(String text, BigInteger... first) {
        BigInteger[] all = Arrays.copyOf(first, REGISTERS);
        Arrays.fill(all, first.length, REGISTERS, BigInteger.ZERO);
        return new State(text, all);
    }

    static State of(String text, long... first) {
        return ofBig(text, Arrays.stream(first).mapToObj(BigInteger::valueOf).toArray(BigInteger[]::new));
    }

    State with(int r, BigInteger v) {
        BigInteger[] changed = numbers.clone();
        changed[r] = v;
        return new State(text, changed);
    }

    State with(int r, long v) {
        return with(r, BigInteger.valueOf(v));
    }

    State withText(String newText) {
        return new State(newText, numbers);
    }

    /** The call throws this, and every register and the text are what they were. */
    void refuses(String what, Class<? extends RuntimeException> want, Consumer<LimbRegisters> call) {
        outcomeDue(what, thrown(call), want, this);
    }

    /** The call throws nothing, and leaves this. */
    void leaves(String what, Consumer<LimbRegisters> call, State after) {
        outcomeDue(what, thrown(call), null, after);
    }

    /** The call answers this, and leaves that. */
    void answers(String what, Function<LimbRegisters, Object> call, Object want, State after) {
        outcomeDue(what, x -> Calls.answerOf(() -> call.apply(x)), want, after);
    }

    /** The call answers or throws, and leaves, what the model does. */
    void goesAsTheModel(String name, long... with) {
        Model model = new Model();
        System.arraycopy(numbers, 0, model.numbers, 0, REGISTERS);
        model.text.append(text);
        Object want = Calls.answerOf(() -> model.call(name, with));
        outcomeDue(name + Arrays.toString(with), x -> Calls.answerOf(() -> Calls.call(x, name, with)), want,
                new State(model.text.toString(), model.numbers));
    }

    private static Function<LimbRegisters, Object> thrown(Consumer<LimbRegisters> call) {
        return x -> Checks.thrownBy(() -> call.accept(x));
    }

    private void outcomeDue(String what, Function<LimbRegisters, Object> call, Object want, State after) {
        lookAtAll(what, call, want, after, false);
        lookAtAll(what + ", on an object that was used before,", call, want, after, true);
    }

    private void lookAtAll(String what, Function<LimbRegisters, Object> call, Object want, State after, boolean used) {
        for (int r = 0; r < REGISTERS; r += REGISTERS_A_LOOK) {
            LimbRegisters x = make(used);
            Checks.due(what, call.apply(x), want);
            for (int i = r; i < r + REGISTERS_A_LOOK; i++) {
                registerDue("register " + i + " after " + what, x, i, after.numbers[i]);
            }
        }
        for (int from = 0; from <= after.text.length(); from += CHARACTERS_A_LOOK) {
            LimbRegisters x = make(used);
            call.apply(x);
            Checks.due("text after " + what, partOf(x, from), after.partFrom(from));
            Checks.due("length of the text after " + what, x.wipe(), after.text.length());
        }
    }

    private static void registerDue(String what, LimbRegisters x, int r, BigInteger want) {
        if (want.signum() == 0) {
            // A 0 that is held as one below 0 would show a sign here, and in no bit.
            Checks.due("numeral of " + what, x.print(r, 2), 1);
        }
        Checks.due(what, Numbers.drain(x, r), want);
    }

    private String partFrom(int from) {
        return text.substring(from, Math.min(from + CHARACTERS_A_LOOK, text.length()));
    }

    private static String partOf(LimbRegisters x, int from) {
        StringBuilder part = new StringBuilder();
        try {
            while (part.length() < CHARACTERS_A_LOOK) {
                part.append((char) x.character(from + part.length()));
            }
        } catch (IndexOutOfBoundsException e) {
            return part.toString();
        }
        return part.toString();
    }

    /** An object in this state, with 26 calls for a long number and one for eight characters. */
    private LimbRegisters make(boolean used) {
        LimbRegisters x = new LimbRegisters();
        if (used) {
            use(x);
        }
        for (int r = 0; r < REGISTERS; r++) {
            if (numbers[r].bitLength() >= 64) {
                Numbers.typeAll(x, numbers[r].toString(36));
                x.parse(r, 36);
            } else if (used || numbers[r].signum() != 0) {
                x.set(r, numbers[r].longValue());
            }
        }
        Numbers.typeAll(x, text);
        return x;
    }

    /** Calls of all kinds, so that whatever an object keeps beside its registers and its text is not new any more. */
    private static void use(LimbRegisters x) {
        x.set(0, -12345678987654321L);
        x.shift(1, 0, 100);
        x.set(2, 97);
        x.divide(3, 4, 1, 2, true);
        x.copy(5, 1, true);
        x.root(6, 5, 9);
        x.multiply(7, 6, 0);
        x.gcd(8, 7, 5);
        x.power(9, 7, 2, 6);
        x.inverse(10, 7, 2);
        x.print(1, 36);
        x.parse(11, 36);
    }
}
