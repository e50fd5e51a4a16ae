import java.lang.reflect.Method;
import java.util.ArrayList;
import java.util.List;
import java.util.Random;

/** Runs of calls drawn from fixed seeds, with every answer compared with PlainModel's. */
public final class RandomRunsTest {
    private static final int RUNS = 1500;
    private static final int CALLS_A_RUN = 220;
    private static final int[] WILD = {-1, -2, 0, 1, 2, 3, 4, 39, 40, 41, 59, 60, 61, 99, 1048575, 1048576,
        Integer.MAX_VALUE, Integer.MIN_VALUE, Integer.MAX_VALUE - 1, -1000000};

    /** A call, how often it is drawn, and what each of its arguments is drawn from. */
    private record Call(String name, int weight, Drawn... arguments) { }

    private enum Drawn {
        COMMIT, PARENT, SECOND, THINGS, LAYER, SETTING, VALUE, TO_ONE, TO_TWO, TO_FOUR, TO_FIVE, TO_EIGHT,
        TELLING, ANY_SHEET, SHEET, FORM, SIZE, ITEM, CONTENT
    }

    private static final Call ADD = new Call("add", 6, Drawn.PARENT, Drawn.SECOND, Drawn.THINGS);
    private static final Call SEAL = new Call("seal", 2);
    private static final Call[] CALLS = {
        ADD, SEAL,
        new Call("back", 1), new Call("read", 2, Drawn.SHEET), new Call("layer", 2, Drawn.LAYER),
        new Call("set", 3, Drawn.SETTING, Drawn.VALUE), new Call("commit", 2, Drawn.COMMIT, Drawn.TO_FIVE),
        new Call("reach", 1, Drawn.COMMIT), new Call("look", 2, Drawn.COMMIT, Drawn.COMMIT, Drawn.TO_TWO),
        new Call("bases", 2, Drawn.COMMIT, Drawn.COMMIT), new Call("paints", 2, Drawn.COMMIT, Drawn.COMMIT),
        new Call("ways", 2, Drawn.COMMIT, Drawn.COMMIT), new Call("far", 2, Drawn.COMMIT, Drawn.COMMIT),
        new Call("kept", 3, Drawn.COMMIT, Drawn.TO_TWO), new Call("walk", 2, Drawn.COMMIT, Drawn.TO_TWO),
        new Call("has", 3, Drawn.COMMIT), new Call("want", 2, Drawn.COMMIT), new Call("clear", 1, Drawn.TO_ONE),
        new Call("sets", 2, Drawn.TO_FOUR), new Call("rounds", 3), new Call("told", 3, Drawn.TELLING, Drawn.TO_TWO),
        new Call("things", 2), new Call("sheet", 2, Drawn.ANY_SHEET, Drawn.FORM, Drawn.SIZE),
        new Call("lose", 1, Drawn.ANY_SHEET), new Call("lay", 5, Drawn.SHEET, Drawn.FORM, Drawn.ITEM, Drawn.CONTENT),
        new Call("get", 3, Drawn.SHEET, Drawn.FORM, Drawn.ITEM),
        new Call("copy", 2, Drawn.SHEET, Drawn.ITEM, Drawn.SHEET, Drawn.ITEM, Drawn.ITEM),
        new Call("write", 2, Drawn.COMMIT, Drawn.COMMIT, Drawn.SHEET), new Call("count", 3, Drawn.TO_EIGHT),
        new Call("digest", 1),
    };

    private final Random random;
    private final boolean wild;
    private final int oneRootIn;
    private final int mergesOfFour;
    private final CommitIndex index = new CommitIndex();
    private final PlainModel model = new PlainModel();
    private final StringBuilder log = new StringBuilder();

    private RandomRunsTest(int seed) {
        random = new Random(seed);
        wild = seed % 5 == 0;
        oneRootIn = seed % 2 == 0 ? 6 : 30;
        mergesOfFour = seed % 4;
    }

    public static void main(String[] args) throws ReflectiveOperationException {
        Checks checks = new Checks();
        List<Call> drawn = new ArrayList<>();
        for (Call call : CALLS) {
            for (int n = 0; n < call.weight(); n++) drawn.add(call);
        }
        for (int seed = 1; seed <= RUNS && checks.wrongSoFar() == 0; seed++) {
            checks.part("seed " + seed);
            new RandomRunsTest(seed).run(checks, drawn, seed % 3 == 0);
        }
        checks.end();
    }

    /** Some runs grow a history first, so that the limit of 40 is met; others mix all calls from the start. */
    private void run(Checks checks, List<Call> drawn, boolean mixed) throws ReflectiveOperationException {
        int grown = mixed ? 0 : random.nextInt(45);
        for (int n = 0; n < grown; n++) {
            step(checks, ADD);
            if (random.nextInt(8) == 0) step(checks, SEAL);
        }
        for (int n = grown; n < CALLS_A_RUN && checks.wrongSoFar() == 0; n++) {
            step(checks, drawn.get(random.nextInt(drawn.size())));
        }
        step(checks, CALLS[CALLS.length - 1]);
    }

    private void step(Checks checks, Call call) throws ReflectiveOperationException {
        Object[] arguments = new Object[call.arguments().length];
        StringBuilder text = new StringBuilder(call.name()).append('(');
        for (int i = 0; i < arguments.length; i++) {
            arguments[i] = draw(call.arguments()[i]);
            text.append(i == 0 ? "" : ", ").append(arguments[i]);
        }
        text.append(')');
        long want = answer(model, call.name(), arguments);
        long got = answer(index, call.name(), arguments);
        checks.due(got == want ? "" : log.toString() + text, got, want);
        log.append(text).append(" = ").append(want).append("; ");
    }

    private static long answer(Object target, String name, Object[] arguments) throws ReflectiveOperationException {
        Class<?>[] types = new Class<?>[arguments.length];
        java.util.Arrays.fill(types, int.class);
        Method method = target.getClass().getDeclaredMethod(name, types);
        return ((Number) method.invoke(target, arguments)).longValue();
    }

    private int draw(Drawn kind) {
        int n = model.size();
        switch (kind) {
            case COMMIT: return within(0, n - 1);
            case PARENT: return n == 0 || random.nextInt(oneRootIn) == 0 ? -1 : parentAmong(n);
            case SECOND: return n < 2 || random.nextInt(4) >= mergesOfFour ? -1 : parentAmong(n);
            case THINGS: return random.nextBoolean() ? within(0, 1048575) : within(0, 7);
            case LAYER: return within(0, random.nextBoolean() ? 4 : 39);
            case SETTING: case TO_TWO: case FORM: return within(0, 2);
            case VALUE: return within(0, 10);
            case TO_ONE: case SHEET: return within(0, 1);
            case TO_FOUR: return within(0, 4);
            case TO_FIVE: return within(0, 5);
            case TO_EIGHT: return within(0, 8);
            case TELLING: return within(0, random.nextBoolean() ? 10 : 39);
            case ANY_SHEET: return within(0, random.nextBoolean() ? 1 : 3);
            case SIZE: return within(0, 60);
            case ITEM: return within(0, 12);
            case CONTENT: return random.nextInt(4) == 0 ? random.nextInt() : within(-1, 5);
            default: throw new IllegalStateException("no such kind");
        }
    }

    /** Near ones make long histories, early ones make many ways to the same few. */
    private int parentAmong(int n) {
        switch (random.nextInt(3)) {
            case 0: return within(0, n - 1);
            case 1: return within(0, Math.min(n - 1, 3));
            default: return within(Math.max(0, n - 4), n - 1);
        }
    }

    private int within(int from, int to) {
        if (wild && random.nextInt(4) == 0) return WILD[random.nextInt(WILD.length)];
        if (random.nextInt(40) == 0) return random.nextBoolean() ? from - 1 : to + 1;
        return from + random.nextInt(Math.max(1, to - from + 1));
    }
}
