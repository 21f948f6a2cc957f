import java.util.ArrayList;
import java.util.Arrays;
import java.util.List;
import java.util.Random;

/** Runs of all calls with all kinds of arguments; every answer and the state at the end against a model. */
public final class RunsTest {
    private static final int RUNS = 2500;
    private static final int RUNS_BY_TURNS = 100;
    private static final int OBJECTS_BY_TURNS = 5;
    /** With the 420 calls that read all registers an object has 510. */
    private static final int CALLS = 90;

    private RunsTest() {
    }

    public static void main(String[] args) {
        for (int run = 0; run < RUNS; run++) {
            tryRun(run, 1);
        }
        for (int run = 0; run < RUNS_BY_TURNS; run++) {
            tryRun(run, OBJECTS_BY_TURNS);
        }
        Checks.end();
    }

    /** With several objects, which get their calls by turns, none may show what another was told. */
    private static void tryRun(int run, int objects) {
        Random random = new Random(run);
        LimbRegisters[] all = new LimbRegisters[objects];
        Model[] models = new Model[objects];
        Arrays.setAll(all, i -> new LimbRegisters());
        Arrays.setAll(models, i -> new Model());
        List<String> told = new ArrayList<>();
        for (int i = 0; i < CALLS * objects; i++) {
            LimbRegisters x = all[i % objects];
            Model model = models[i % objects];
            String name = Calls.NAMES[random.nextInt(Calls.NAMES.length)];
            long[] with = arguments(name, random, model);
            told.add(name + Arrays.toString(with));
            Checks.due("run " + run + " of " + objects + " " + told, Calls.answerOf(() -> Calls.call(x, name, with)),
                    Calls.answerOf(() -> model.call(name, with)));
        }
        for (int i = 0; i < objects; i++) {
            stateDue("run " + run + " of " + objects + " " + told, all[i], models[i], run);
        }
    }

    /** Few enough calls for an object: all registers, or the text where it is short enough. */
    private static void stateDue(String what, LimbRegisters x, Model model, int run) {
        if (run % 2 == 0 && model.text.length() < 400) {
            Checks.due("text after " + what, Numbers.textOf(x), model.text.toString());
            return;
        }
        for (int r = 0; r < 12; r++) {
            Checks.due("register " + r + " after " + what, Numbers.drain(x, r), model.numbers[r]);
        }
    }

    private static long[] arguments(String name, Random random, Model model) {
        long a = register(random);
        long b = register(random);
        long c = register(random);
        switch (name) {
            case "set":
                return new long[] {a, Numbers.any(random).longValue() >> random.nextInt(64)};
            case "copy":
                return new long[] {a, b, random.nextInt(2)};
            case "divide":
                return new long[] {a, b, c, register(random), random.nextInt(2)};
            case "shift":
                return new long[] {a, b, oneOf(random, random.nextInt(2400) - 1200, random.nextInt(80) - 20,
                        random.nextInt())};
            case "root":
                return new long[] {a, b, oneOf(random, random.nextInt(9) - 1, random.nextInt(1100),
                        random.nextInt())};
            case "power":
                return new long[] {a, b, c, register(random)};
            case "bit":
                return new long[] {a, oneOf(random, random.nextInt(1100) - 20, random.nextInt())};
            case "bits":
            case "low":
                return new long[] {a};
            case "type":
                return typed(random);
            case "wipe":
                return new long[] {};
            case "parse":
            case "print":
                return new long[] {a, oneOf(random, 2 + random.nextInt(35), 2 + random.nextInt(35), 36, 16,
                        random.nextInt(50) - 5)};
            case "character":
                return new long[] {random.nextInt(model.text.length() + 3) - 1};
            case "compare":
                return new long[] {a, b};
            default:
                return new long[] {a, b, c};
        }
    }

    private static long register(Random random) {
        return random.nextInt(40) == 0 ? random.nextInt(16) - 2 : random.nextInt(random.nextBoolean() ? 12 : 4);
    }

    private static int oneOf(Random random, int... kinds) {
        return kinds[random.nextInt(kinds.length)];
    }

    private static long[] typed(Random random) {
        String from = random.nextInt(6) == 0 ? "-AZaz09 ~/:@[`{" : "0123456789abcdefABCDEF";
        long characters = random.nextLong();
        int n = random.nextInt(12) == 0 ? random.nextInt(12) - 1 : 1 + random.nextInt(8);
        for (int i = 0; i < n && random.nextInt(60) != 0; i++) {
            characters = characters << 8 | from.charAt(random.nextInt(from.length()));
        }
        return new long[] {characters, n};
    }
}
