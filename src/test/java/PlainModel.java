import java.util.ArrayList;
import java.util.Comparator;
import java.util.HashSet;
import java.util.List;
import java.util.Set;
import java.util.TreeSet;

/**
 * The document told again with lists and sets and nothing remembered, so that CommitIndex can be
 * compared with it on runs that nobody has worked out by hand.
 */
final class PlainModel {
    private record Commit(int p, int q, int things) { }

    private record Telling(int commit, boolean common, int round) { }

    private record Row(int form, int[] items) { }

    private final List<Commit> commits = new ArrayList<>();
    private final List<Integer> layers = new ArrayList<>();
    private final Set<Integer> had = new TreeSet<>();
    private final Set<Integer> wanted = new TreeSet<>();
    private final Row[] rows = new Row[4];
    private int every = 4;
    private int per = 2;
    private int haste = 0;
    private int latest = 0;

    private List<Telling> tellings = new ArrayList<>();
    private Set<Integer> common = new TreeSet<>();
    private int roundsHeld = 0;

    // ---- commits

    int size() {
        return commits.size();
    }

    private boolean is(int c) {
        return 0 <= c && c < commits.size();
    }

    private boolean mayBe(int p, int q, int things) {
        boolean pGood = p == -1 || is(p);
        boolean qGood = q == -1 || p != -1 && is(q) && q != p;
        return pGood && qGood && 0 <= things && things <= 0xFFFFF;
    }

    int add(int p, int q, int things) {
        if (!mayBe(p, q, things)) return -2;
        if (commits.size() == 40) return -4;
        commits.add(new Commit(p, q, things));
        return commits.size();
    }

    private int sealedCount() {
        return layers.stream().mapToInt(Integer::intValue).sum();
    }

    int back() {
        int last = commits.size() - 1;
        if (last < 0 || last < sealedCount()) return -3;
        commits.remove(last);
        had.remove(last);
        wanted.remove(last);
        return commits.size();
    }

    int read(int s) {
        if (s < 0 || s > 3) return -2;
        if (rows[s] == null) return found(1);
        int[] items = rows[s].items();
        int n = 0;
        while (n < items.length / 3 && add(items[3 * n], items[3 * n + 1], items[3 * n + 2]) > 0) n++;
        return n;
    }

    int seal() {
        int fresh = commits.size() - sealedCount();
        if (fresh == 0) return -3;
        layers.add(fresh);
        while (layers.size() >= 2) {
            int last = layers.get(layers.size() - 1);
            int ahead = layers.get(layers.size() - 2);
            if (ahead > last + last) break;
            layers.remove(layers.size() - 1);
            layers.set(layers.size() - 1, ahead + last);
        }
        return layers.size();
    }

    int layer(int i) {
        if (i < 0 || i > 39) return -2;
        return i < layers.size() ? layers.get(i) : -1;
    }

    int set(int what, int v) {
        int was;
        if (what == 0 && v >= 1 && v <= 10) {
            was = every;
            every = v;
        } else if (what == 1 && v >= 1 && v <= 8) {
            was = per;
            per = v;
        } else if (what == 2 && (v == 0 || v == 1)) {
            was = haste;
            haste = v;
        } else {
            was = -2;
        }
        return was;
    }

    private List<Integer> parents(int c) {
        List<Integer> all = new ArrayList<>();
        if (commits.get(c).p() >= 0) all.add(commits.get(c).p());
        if (commits.get(c).q() >= 0) all.add(commits.get(c).q());
        return all;
    }

    private int[] ranks() {
        int[] ranks = new int[commits.size()];
        for (int c = 0; c < ranks.length; c++) {
            ranks[c] = 1;
            for (int p : parents(c)) ranks[c] = Math.max(ranks[c], ranks[p] + 1);
        }
        return ranks;
    }

    private int[] generations() {
        int[] generations = ranks();
        for (int c = sealedCount(); c < generations.length; c++) generations[c] = 99;
        return generations;
    }

    int commit(int c, int what) {
        if (!is(c) || what < 0 || what > 5) return -2;
        int children = 0;
        for (int d = 0; d < commits.size(); d++) if (parents(d).contains(c)) children++;
        int[] all = {commits.get(c).p(), commits.get(c).q(), ranks()[c], generations()[c], commits.get(c).things(), children};
        return all[what];
    }

    // ---- what is reached

    private Set<Integer> reached(int c) {
        Set<Integer> all = new TreeSet<>();
        List<Integer> open = new ArrayList<>(List.of(c));
        while (!open.isEmpty()) {
            int next = open.remove(open.size() - 1);
            if (all.add(next)) open.addAll(parents(next));
        }
        return all;
    }

    private static long bits(Set<Integer> set) {
        long all = 0;
        for (int c : set) all += 1L << c;
        return all;
    }

    long reach(int c) {
        return is(c) ? bits(reached(c)) : Long.MIN_VALUE + 2;
    }

    private static int takeGreatest(List<Integer> pile, int[] keys) {
        Comparator<Integer> byKey = Comparator.comparingInt(c -> keys[c]);
        pile.sort(byKey.thenComparing(Comparator.naturalOrder()));
        return pile.remove(pile.size() - 1);
    }

    private List<Integer> lookedAt(int a, int b, boolean plainly) {
        int[] generations = generations();
        List<Integer> looked = new ArrayList<>();
        if (!plainly && generations[b] < generations[a]) return looked;
        List<Integer> pile = new ArrayList<>(List.of(b));
        Set<Integer> been = new HashSet<>(pile);
        while (!pile.isEmpty()) {
            int c = takeGreatest(pile, generations);
            looked.add(c);
            if (c == a) break;
            for (int p : parents(c)) {
                if ((plainly || generations[p] >= generations[a]) && been.add(p)) pile.add(p);
            }
        }
        return looked;
    }

    int look(int a, int b, int what) {
        if (!is(a) || !is(b) || what < 0 || what > 2) return -2;
        if (what == 0) return reached(b).contains(a) ? 1 : 0;
        return lookedAt(a, b, what == 2).size();
    }

    long bases(int a, int b) {
        if (!is(a) || !is(b)) return Long.MIN_VALUE + 2;
        Set<Integer> both = reached(a);
        both.retainAll(reached(b));
        Set<Integer> nearest = new TreeSet<>(both);
        for (int c : both) {
            for (int d : both) if (d != c && reached(d).contains(c)) nearest.remove(c);
        }
        return bits(nearest);
    }

    int paints(int a, int b) {
        if (!is(a) || !is(b)) return -2;
        int[] generations = generations();
        int[] colours = new int[commits.size()];
        boolean[] stale = new boolean[commits.size()];
        colours[a] |= 1;
        colours[b] |= 2;
        List<Integer> pile = new ArrayList<>(new TreeSet<>(List.of(a)));
        if (a != b) pile.add(b);
        Set<Integer> been = new HashSet<>(pile);
        int looked = 0;
        while (pile.stream().anyMatch(c -> !stale[c])) {
            int c = takeGreatest(pile, generations);
            looked++;
            for (int p : parents(c)) {
                colours[p] |= colours[c];
                if (stale[c] || colours[c] == 3) stale[p] = true;
                if (been.add(p)) pile.add(p);
            }
        }
        return looked;
    }

    long ways(int a, int b) {
        if (!is(a) || !is(b)) return Long.MIN_VALUE + 2;
        long[] up = new long[commits.size()];
        up[a] = 1;
        for (int c = a + 1; c <= b; c++) for (int p : parents(c)) up[c] += up[p];
        return up[b];
    }

    int far(int a, int b) {
        if (!is(a) || !is(b)) return -2;
        Set<Integer> edge = new HashSet<>(List.of(b));
        for (int steps = 0; !edge.isEmpty(); steps++) {
            if (edge.contains(a)) return steps;
            Set<Integer> next = new HashSet<>();
            for (int c : edge) next.addAll(parents(c));
            edge = next;
        }
        return -1;
    }

    // ---- kept sets

    private boolean isKept(int c) {
        return (c + 1) % every == 0;
    }

    private int root(int c) {
        int best = -1;
        for (int r : reached(c)) if (r != c && isKept(r)) best = Math.max(best, r);
        return best;
    }

    int kept(int c, int what) {
        if (!is(c) || what < 0 || what > 2) return -2;
        if (!isKept(c)) return -3;
        int root = root(c);
        if (what == 0) return root;
        if (what == 1) {
            Set<Integer> share = reached(c);
            if (root >= 0) share.removeAll(reached(root));
            return share.size();
        }
        return root < 0 ? 0 : 1 + kept(root, 2);
    }

    int walk(int c, int what) {
        if (!is(c) || what < 0 || what > 2) return -2;
        List<Integer> pile = new ArrayList<>(List.of(c));
        Set<Integer> found = new HashSet<>();
        int looked = 0;
        int used = 0;
        while (!pile.isEmpty()) {
            Integer d = pile.stream().max(Comparator.naturalOrder()).get();
            pile.remove(d);
            if (found.contains(d)) continue;
            if (isKept(d)) {
                found.addAll(reached(d));
                used++;
            } else {
                found.add(d);
                looked++;
                pile.addAll(parents(d));
            }
        }
        return what == 0 ? looked : what == 1 ? used : found.size();
    }

    // ---- giver and taker

    int has(int c) {
        if (!is(c)) return -2;
        had.addAll(reached(c));
        return had.size();
    }

    int want(int c) {
        if (!is(c)) return -2;
        return wanted.add(c) ? wanted.size() : -3;
    }

    int clear(int what) {
        if (what != 0 && what != 1) return -2;
        Set<Integer> set = what == 0 ? had : wanted;
        int were = set.size();
        set.clear();
        return were;
    }

    private boolean anyWantedReaches(int c) {
        return wanted.stream().anyMatch(w -> reached(w).contains(c));
    }

    private void negotiate() {
        int[] ranks = ranks();
        tellings = new ArrayList<>();
        common = new TreeSet<>();
        roundsHeld = 0;
        List<Integer> pile = new ArrayList<>();
        for (int c : had) {
            if (had.stream().noneMatch(d -> d != c && reached(d).contains(c))) pile.add(c);
        }
        Set<Integer> been = new HashSet<>(pile);
        while (!pile.isEmpty()) {
            List<Integer> batch = new ArrayList<>();
            while (!pile.isEmpty() && batch.size() < per) {
                batch.add(takeGreatest(pile, ranks));
            }
            for (int c : batch) {
                boolean yes = anyWantedReaches(c);
                tellings.add(new Telling(c, yes, roundsHeld));
                if (yes) common.addAll(reached(c));
                else for (int p : parents(c)) if (!common.contains(p) && been.add(p)) pile.add(p);
            }
            roundsHeld++;
            pile.removeAll(common);
            if (haste == 1 && wanted.stream().allMatch(w -> reached(w).stream().anyMatch(common::contains))) break;
        }
    }

    private Set<Integer> sent() {
        Set<Integer> all = new TreeSet<>();
        for (int w : wanted) all.addAll(reached(w));
        all.removeAll(common);
        return all;
    }

    long sets(int what) {
        if (what < 0 || what > 4) return Long.MIN_VALUE + 2;
        negotiate();
        Set<Integer> vain = sent();
        vain.retainAll(had);
        return bits(List.of(had, wanted, common, sent(), vain).get(what));
    }

    int rounds() {
        negotiate();
        return roundsHeld;
    }

    int told(int i, int what) {
        if (i < 0 || i > 39 || what < 0 || what > 2) return -2;
        negotiate();
        if (i >= tellings.size()) return -1;
        Telling t = tellings.get(i);
        return what == 0 ? t.commit() : what == 1 ? (t.common() ? 1 : 0) : t.round();
    }

    int things() {
        negotiate();
        int all = 0;
        for (int t = 0; t < 20; t++) {
            int thing = 1 << t;
            boolean sentHas = sent().stream().anyMatch(c -> (commits.get(c).things() & thing) != 0);
            boolean commonHas = common.stream().anyMatch(c -> (commits.get(c).things() & thing) != 0);
            if (sentHas && !commonHas) all += thing;
        }
        return all;
    }

    // ---- sheets

    private int found(int number) {
        latest = number;
        return -10 - number;
    }

    private static boolean isSheet(int s) {
        return 0 <= s && s <= 3;
    }

    private static boolean isForm(int form) {
        return 0 <= form && form <= 2;
    }

    int sheet(int s, int form, int n) {
        if (!isSheet(s) || !isForm(form) || n > 60) return -2;
        if (n < 0) return found(5);
        rows[s] = new Row(form, new int[n]);
        return n;
    }

    int lose(int s) {
        if (!isSheet(s)) return -2;
        if (rows[s] == null) return found(1);
        int n = rows[s].items().length;
        rows[s] = null;
        return n;
    }

    private int fault(int s, int form, int i) {
        if (rows[s] == null) return 1;
        if (rows[s].form() != form) return 3;
        return i < 0 || i >= rows[s].items().length ? 2 : 0;
    }

    private void put(int s, int i, int v) {
        rows[s].items()[i] = rows[s].form() == 0 ? (byte) v : rows[s].form() == 1 ? (short) v : v;
    }

    int lay(int s, int form, int i, int v) {
        if (!isSheet(s) || !isForm(form)) return -2;
        int fault = fault(s, form, i);
        if (fault != 0) return found(fault);
        put(s, i, v);
        return 1;
    }

    int get(int s, int form, int i) {
        if (!isSheet(s) || !isForm(form)) return Integer.MIN_VALUE;
        int fault = fault(s, form, i);
        if (fault != 0) {
            latest = fault;
            return Integer.MIN_VALUE;
        }
        return rows[s].items()[i];
    }

    int copy(int s, int i, int t, int j, int n) {
        if (!isSheet(s) || !isSheet(t)) return -2;
        if (rows[s] == null || rows[t] == null) return found(1);
        if (rows[s].form() != rows[t].form()) return found(4);
        if (i < 0 || j < 0 || n < 0) return found(2);
        if ((long) i + n > rows[s].items().length || (long) j + n > rows[t].items().length) return found(2);
        int[] before = rows[s].items().clone();
        for (int k = 0; k < n; k++) rows[t].items()[j + k] = before[i + k];
        return 1;
    }

    int write(int a, int b, int s) {
        if (!is(a) || !is(b) || !isSheet(s)) return -2;
        if (rows[s] == null) return found(1);
        int n = 0;
        for (int c : lookedAt(a, b, false)) {
            if (n < rows[s].items().length) put(s, n++, c);
        }
        return n;
    }

    int count(int what) {
        if (what < 0 || what > 8) return -2;
        negotiate();
        int[] all = {commits.size(), sealedCount(), layers.size(), had.size(), wanted.size(),
            roundsHeld, tellings.size(), sent().size(), latest};
        return all[what];
    }

    long digest() {
        List<Long> all = new ArrayList<>();
        for (int w = 0; w <= 7; w++) all.add((long) count(w));
        for (int i = 0; i <= 9; i++) all.add((long) layer(i));
        int last = commits.size() - 1;
        for (int c = 0; c <= last; c++) {
            for (int w = 0; w <= 5; w++) all.add((long) commit(c, w));
            all.add(reach(c));
            for (int w = 0; w <= 2; w++) all.add((long) kept(c, w));
            for (int w = 0; w <= 2; w++) all.add((long) walk(c, w));
            all.add(bases(c, last));
            all.add((long) paints(c, last));
            for (int w = 0; w <= 2; w++) all.add((long) look(c, last, w));
            all.add(ways(c, last));
            all.add((long) far(c, last));
            all.add(bases(c, 0));
            all.add((long) look(0, c, 1));
        }
        for (int w = 0; w <= 4; w++) all.add(sets(w));
        for (int i = 0; i <= 39; i++) for (int w = 0; w <= 2; w++) all.add((long) told(i, w));
        all.add((long) things());
        long h = 17;
        for (long v : all) h = 31 * h + v;
        return h;
    }
}
