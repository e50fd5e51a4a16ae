import java.io.IOException;
import java.util.List;
import java.util.Set;
import java.util.TreeSet;
import java.util.function.Supplier;
import java.util.function.ToLongFunction;

/** What the tests of the document's sentences share: which sentence it is, states to start from, calls that are refused. */
abstract class Sentences {
    static final int NONE = -1;
    static final int BAD = -2;
    static final int NOT = -3;
    static final int FULL = -4;
    static final int NULL_ = -11;
    static final int INDEX = -12;
    static final int CAST = -13;
    static final int STORE = -14;
    static final int SIZE = -15;
    static final int MIN = Integer.MIN_VALUE;
    static final int MAX = Integer.MAX_VALUE;
    static final long BAD_LONG = Long.MIN_VALUE + 2;
    static final long ALL_FORTY = (1L << 40) - 1;

    /** A call with one of its numbers left open. */
    interface Call {
        long on(CommitIndex x, int v);
    }

    final Checks checks = new Checks();
    final Set<Integer> partsMet = new TreeSet<>();
    private final Document document;

    Sentences(String[] args) throws IOException {
        document = new Document(args.length > 0 ? args[0] : ".");
    }

    /** What follows is for this sentence of a promise (0: of what stands ahead of the promises). */
    final void sentence(int part, String text) {
        checks.part((part == 0 ? "terms" : "promise " + part) + ", \"" + text + "\"");
        checks.holds("the document says so", document.says(part, text));
        partsMet.add(part);
    }

    final void due(String what, long got, long want) {
        checks.due(what, got, want);
    }

    // ---- states

    /** Commits by their parents, two numbers each; the things of commit c are 1 << c. */
    static CommitIndex grown(int... parents) {
        return grow(new CommitIndex(), parents);
    }

    static CommitIndex grow(CommitIndex x, int... parents) {
        for (int i = 0; i + 1 < parents.length; i += 2) {
            x.add(parents[i], parents[i + 1], 1 << x.count(0) % 20);
        }
        return x;
    }

    static CommitIndex chain(int n) {
        CommitIndex x = new CommitIndex();
        for (int c = 0; c < n; c++) x.add(c - 1, NONE, 1 << c % 20);
        return x;
    }

    static CommitIndex roots(int n) {
        CommitIndex x = new CommitIndex();
        for (int c = 0; c < n; c++) x.add(NONE, NONE, 1 << c % 20);
        return x;
    }

    static CommitIndex sealed(CommitIndex x) {
        x.seal();
        return x;
    }

    static CommitIndex with(CommitIndex x, int what, int v) {
        x.set(what, v);
        return x;
    }

    /** A sheet with these items; the object answers for it. */
    static CommitIndex laid(CommitIndex x, int s, int form, int... items) {
        x.sheet(s, form, items.length);
        for (int i = 0; i < items.length; i++) x.lay(s, form, i, items[i]);
        return x;
    }

    // ---- refusals

    /** The call is refused with this answer, and nothing changes; but for count() 8, if it is a finding. */
    final void refused(String what, Supplier<CommitIndex> state, ToLongFunction<CommitIndex> call, long answer) {
        refused(what, state, call, answer, answer <= NULL_ && answer >= SIZE ? (int) (-10 - answer) : 0);
    }

    /** As above, where the answer does not tell the finding; 0: it is none. */
    final void refused(String what, Supplier<CommitIndex> state, ToLongFunction<CommitIndex> call, long answer,
            int finding) {
        CommitIndex touched = state.get();
        CommitIndex twin = state.get();
        due(what, call.applyAsLong(touched), answer);
        due(what + ": count() 8", touched.count(8), finding == 0 ? twin.count(8) : finding);
        same(what + ": changes nothing", Observed.of(touched), Observed.of(twin));
    }

    private void same(String what, List<Long> got, List<Long> want) {
        due(what + ", how much is told", got.size(), want.size());
        for (int i = 0; i < Math.min(got.size(), want.size()); i++) due(what + ", " + i, got.get(i), want.get(i));
    }

    /** Numbers from low to high are taken; one below, one above and the ends of int are refused, and change nothing. */
    final void range(String what, Supplier<CommitIndex> state, int low, int high, long refusal, Call call) {
        for (int v : new int[] {low - 1, high + 1, MIN, MAX}) {
            refused(what + ", " + v, state, x -> call.on(x, v), refusal);
        }
        taken(what, state, low, call);
        taken(what, state, high, call);
        for (int v = low + 1; v < high && high - low <= 60; v++) taken(what, state, v, call);
    }

    private void taken(String what, Supplier<CommitIndex> state, int v, Call call) {
        long answer = call.on(state.get(), v);
        checks.holds(what + ", " + v + " is not refused: " + answer,
            (answer > BAD || answer < SIZE) && answer != BAD_LONG && answer != MIN);
    }
}
