import java.util.ArrayList;
import java.util.List;
import java.util.function.Supplier;

/** All that the calls tell of an object but the latest finding, so that two objects can be compared. */
final class Observed {
    private static final int SHEETS = 4;
    private static final int FORMS = 3;
    private static final int MOST_ITEMS = 60;
    private static final int INDEX = -12;

    private Observed() { }

    /** The object is spent behind this: its settings are as at first, and its sheets are lost. */
    static List<Long> of(CommitIndex x) {
        List<Long> all = new ArrayList<>();
        all.add(x.digest());
        for (int what = 0; what <= 7; what++) all.add((long) x.count(what));
        all.add((long) x.set(0, 4));
        all.add((long) x.set(1, 2));
        all.add((long) x.set(2, 0));
        for (int s = 0; s < SHEETS; s++) addSheet(all, x, s);
        return all;
    }

    private static void addSheet(List<Long> all, CommitIndex x, int s) {
        for (int form = 0; form < FORMS; form++) {
            // There is no item -1: a lost sheet, one of another form and one of this form answer unlike.
            int answer = x.lay(s, form, -1, 0);
            all.add((long) answer);
            if (answer == INDEX) addItems(all, x, s, form);
        }
        all.add((long) x.lose(s));
    }

    private static void addItems(List<Long> all, CommitIndex x, int s, int form) {
        for (int i = 0; i < MOST_ITEMS && x.copy(s, i, s, i, 1) == 1; i++) all.add((long) x.get(s, form, i));
    }

    /** digest() as the document says it, by the other calls; each part asks a new object, as one answers 512 calls only. */
    static long digestByCalls(Supplier<CommitIndex> state) {
        CommitIndex x = state.get();
        long h = 17;
        for (int what = 0; what <= 7; what++) h = 31 * h + x.count(what);
        for (int i = 0; i <= 9; i++) h = 31 * h + x.layer(i);
        int size = x.count(0);
        for (int c = 0; c < size; c++) h = mixCommit(h, state.get(), c, size - 1);
        x = state.get();
        for (int what = 0; what <= 4; what++) h = 31 * h + x.sets(what);
        for (int i = 0; i <= 39; i++) {
            for (int what = 0; what <= 2; what++) h = 31 * h + x.told(i, what);
        }
        return 31 * h + x.things();
    }

    private static long mixCommit(long start, CommitIndex x, int c, int last) {
        long h = start;
        for (int what = 0; what <= 5; what++) h = 31 * h + x.commit(c, what);
        h = 31 * h + x.reach(c);
        for (int what = 0; what <= 2; what++) h = 31 * h + x.kept(c, what);
        for (int what = 0; what <= 2; what++) h = 31 * h + x.walk(c, what);
        h = 31 * h + x.bases(c, last);
        h = 31 * h + x.paints(c, last);
        for (int what = 0; what <= 2; what++) h = 31 * h + x.look(c, last, what);
        h = 31 * h + x.ways(c, last);
        h = 31 * h + x.far(c, last);
        h = 31 * h + x.bases(c, 0);
        return 31 * h + x.look(0, c, 1);
    }
}
