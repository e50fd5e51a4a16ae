/**
 * An index of a history graph: what commits reach, how much has to be looked at to tell it,
 * and what a giver sends to a taker. No call throws, and none makes an object: every row is
 * made with the object and used again.
 */
public final class CommitIndex {
    public static final int NONE = -1, BAD = -2, NOT = -3, FULL = -4;

    private static final int MOST_COMMITS = 40;
    private static final int ALL_THINGS = 1048575;
    private static final int UNSEALED_GENERATION = 99;
    private static final int MOST_EVERY = 10;
    private static final int MOST_PER = 8;
    private static final int SHEETS = 4;
    private static final int FORMS = 3;
    private static final int MOST_ITEMS = 60;
    private static final int LOST = -1;
    private static final int DIGEST_LAYERS = 10;

    private static final int NULL_FOUND = 1;
    private static final int INDEX_FOUND = 2;
    private static final int CAST_FOUND = 3;
    private static final int STORE_FOUND = 4;
    private static final int SIZE_FOUND = 5;

    private static final int LEAST_INT = 1 << 31;
    private static final long LEAST_LONG = 1L << 63;
    private static final long BAD_LONG = LEAST_LONG - BAD;

    private final History history;
    private final Looking looking;
    private final Painting painting;
    private final Paths paths;
    private final KeptSets keptSets;
    private final Exchange exchange;
    private final Sheet[] rows;
    private int latestFinding;

    public CommitIndex() {
        history = new History();
        looking = new Looking();
        painting = new Painting();
        paths = new Paths();
        keptSets = new KeptSets();
        exchange = new Exchange();
        rows = new Sheet[SHEETS];
        for (int s = 0; s < SHEETS; s++) {
            rows[s] = new Sheet();
        }
        latestFinding = 0;
    }

    // ---- commits

    public int add(int p, int q, int things) {
        if (!history.admits(p, q, things)) {
            return BAD;
        }
        if (history.isFull()) {
            return FULL;
        }
        history.append(p, q, things);
        return history.size;
    }

    public int back() {
        if (history.size <= history.sealed) {
            return NOT;
        }
        history.dropLast();
        exchange.forget(history.size);
        return history.size;
    }

    public int read(int s) {
        Sheet sheet = sheetAt(s);
        if (sheet == null) {
            return BAD;
        }
        if (sheet.isLost()) {
            return finding(NULL_FOUND);
        }
        int taken = 0;
        for (int i = 0; i + 2 < sheet.length; i += 3) {
            int p = sheet.itemAt(i);
            int q = sheet.itemAt(i + 1);
            int things = sheet.itemAt(i + 2);
            if (!history.admits(p, q, things) || history.isFull()) {
                break;
            }
            history.append(p, q, things);
            taken++;
        }
        return taken;
    }

    public int seal() {
        if (history.size <= history.sealed) {
            return NOT;
        }
        history.sealRest();
        return history.layers;
    }

    public int layer(int i) {
        if (i < 0 || i >= MOST_COMMITS) {
            return BAD;
        }
        return history.layerSize(i);
    }

    public int set(int what, int v) {
        int old;
        switch (what) {
            case 0:
                if (v < 1 || v > MOST_EVERY) {
                    return BAD;
                }
                old = keptSets.every;
                keptSets.every = v;
                return old;
            case 1:
                if (v < 1 || v > MOST_PER) {
                    return BAD;
                }
                old = exchange.per;
                exchange.per = v;
                return old;
            case 2:
                if (v < 0 || v > 1) {
                    return BAD;
                }
                old = exchange.haste;
                exchange.haste = v;
                return old;
            default:
                return BAD;
        }
    }

    public int commit(int c, int what) {
        if (!history.holds(c)) {
            return BAD;
        }
        switch (what) {
            case 0:
                return history.firstParent(c);
            case 1:
                return history.secondParent(c);
            case 2:
                return history.rankOf(c);
            case 3:
                return history.generationOf(c);
            case 4:
                return history.thingsOf(bit(c));
            case 5:
                return history.childrenOf(c);
            default:
                return BAD;
        }
    }

    // ---- what is reached

    public long reach(int c) {
        return history.holds(c) ? history.reachOf(c) : BAD_LONG;
    }

    public int look(int a, int b, int what) {
        if (!history.holds(a) || !history.holds(b) || what < 0 || what > 2) {
            return BAD;
        }
        looking.search(history, a, b, what == 2);
        if (what == 0) {
            return looking.met ? 1 : 0;
        }
        return looking.looked;
    }

    public long bases(int a, int b) {
        if (!history.holds(a) || !history.holds(b)) {
            return BAD_LONG;
        }
        painting.paint(history, a, b);
        return painting.found;
    }

    public int paints(int a, int b) {
        if (!history.holds(a) || !history.holds(b)) {
            return BAD;
        }
        painting.paint(history, a, b);
        return painting.looked;
    }

    public long ways(int a, int b) {
        if (!history.holds(a) || !history.holds(b)) {
            return BAD_LONG;
        }
        paths.trace(history, b);
        return paths.waysTo(a);
    }

    public int far(int a, int b) {
        if (!history.holds(a) || !history.holds(b)) {
            return BAD;
        }
        paths.trace(history, b);
        return paths.stepsTo(a);
    }

    // ---- kept sets

    public int kept(int c, int what) {
        if (!history.holds(c) || what < 0 || what > 2) {
            return BAD;
        }
        if (!keptSets.isKept(c)) {
            return NOT;
        }
        switch (what) {
            case 0:
                return keptSets.rootOf(history, c);
            case 1:
                return keptSets.shareSize(history, c);
            default:
                return keptSets.rootsBehind(history, c);
        }
    }

    public int walk(int c, int what) {
        if (!history.holds(c) || what < 0 || what > 2) {
            return BAD;
        }
        keptSets.descend(history, c);
        return walkPart(what);
    }

    private int walkPart(int what) {
        switch (what) {
            case 0:
                return keptSets.looked;
            case 1:
                return keptSets.used;
            default:
                return Long.bitCount(keptSets.found);
        }
    }

    // ---- giver and taker

    public int has(int c) {
        if (!history.holds(c)) {
            return BAD;
        }
        exchange.had |= history.reachOf(c);
        return Long.bitCount(exchange.had);
    }

    public int want(int c) {
        if (!history.holds(c)) {
            return BAD;
        }
        if (isIn(exchange.wanted, c)) {
            return NOT;
        }
        exchange.wanted |= bit(c);
        return Long.bitCount(exchange.wanted);
    }

    public int clear(int what) {
        int were;
        switch (what) {
            case 0:
                were = Long.bitCount(exchange.had);
                exchange.had = 0L;
                return were;
            case 1:
                were = Long.bitCount(exchange.wanted);
                exchange.wanted = 0L;
                return were;
            default:
                return BAD;
        }
    }

    public long sets(int what) {
        if (what < 0 || what > 4) {
            return BAD_LONG;
        }
        exchange.talk(history);
        return exchange.setOf(what);
    }

    public int rounds() {
        exchange.talk(history);
        return exchange.held;
    }

    public int told(int i, int what) {
        if (i < 0 || i >= MOST_COMMITS || what < 0 || what > 2) {
            return BAD;
        }
        exchange.talk(history);
        return exchange.tellingPart(i, what);
    }

    public int things() {
        exchange.talk(history);
        return exchange.thingsSent(history);
    }

    // ---- sheets

    public int sheet(int s, int form, int n) {
        Sheet sheet = sheetAt(s);
        if (sheet == null || !isForm(form) || n > MOST_ITEMS) {
            return BAD;
        }
        if (n < 0) {
            return finding(SIZE_FOUND);
        }
        sheet.renew(form, n);
        return n;
    }

    public int lose(int s) {
        Sheet sheet = sheetAt(s);
        if (sheet == null) {
            return BAD;
        }
        if (sheet.isLost()) {
            return finding(NULL_FOUND);
        }
        int had = sheet.length;
        sheet.length = LOST;
        return had;
    }

    public int lay(int s, int form, int i, int v) {
        Sheet sheet = sheetAt(s);
        if (sheet == null || !isForm(form)) {
            return BAD;
        }
        int fault = sheet.faultAt(form, i);
        if (fault != 0) {
            return finding(fault);
        }
        sheet.store(i, v);
        return 1;
    }

    public int get(int s, int form, int i) {
        Sheet sheet = sheetAt(s);
        if (sheet == null || !isForm(form)) {
            return LEAST_INT;
        }
        int fault = sheet.faultAt(form, i);
        if (fault != 0) {
            latestFinding = fault;
            return LEAST_INT;
        }
        return sheet.itemAt(i);
    }

    public int copy(int s, int i, int t, int j, int n) {
        Sheet source = sheetAt(s);
        Sheet target = sheetAt(t);
        if (source == null || target == null) {
            return BAD;
        }
        if (source.isLost() || target.isLost()) {
            return finding(NULL_FOUND);
        }
        if (source.form != target.form) {
            return finding(STORE_FOUND);
        }
        if (!source.hasRun(i, n) || !target.hasRun(j, n)) {
            return finding(INDEX_FOUND);
        }
        System.arraycopy(source.items, i, target.items, j, n);
        return 1;
    }

    public int write(int a, int b, int s) {
        Sheet sheet = sheetAt(s);
        if (!history.holds(a) || !history.holds(b) || sheet == null) {
            return BAD;
        }
        if (sheet.isLost()) {
            return finding(NULL_FOUND);
        }
        looking.search(history, a, b, false);
        int written = Math.min(looking.looked, sheet.length);
        for (int i = 0; i < written; i++) {
            sheet.store(i, looking.lookedAt(i));
        }
        return written;
    }

    public int count(int what) {
        if (what < 0 || what > 8) {
            return BAD;
        }
        if (what >= 5 && what <= 7) {
            exchange.talk(history);
        }
        return countPart(what);
    }

    public long digest() {
        exchange.talk(history);
        long h = mixCounts(17L);
        for (int c = 0; c < history.size; c++) {
            h = mixCommit(h, c);
            h = mixKept(h, c);
            h = mixPairs(h, c, history.size - 1);
        }
        return mixExchange(h);
    }

    /** What count() answers; for 5 to 7 the talk has been held already. */
    private int countPart(int what) {
        switch (what) {
            case 0:
                return history.size;
            case 1:
                return history.sealed;
            case 2:
                return history.layers;
            case 3:
                return Long.bitCount(exchange.had);
            case 4:
                return Long.bitCount(exchange.wanted);
            case 5:
                return exchange.held;
            case 6:
                return exchange.tellings;
            case 7:
                return Long.bitCount(exchange.setOf(3));
            default:
                return latestFinding;
        }
    }

    private long mixCounts(long start) {
        long h = start;
        for (int what = 0; what < 8; what++) {
            h = mix(h, countPart(what));
        }
        for (int i = 0; i < DIGEST_LAYERS; i++) {
            h = mix(h, history.layerSize(i));
        }
        return h;
    }

    private long mixCommit(long start, int c) {
        long h = start;
        for (int what = 0; what < 6; what++) {
            h = mix(h, commit(c, what));
        }
        return mix(h, history.reachOf(c));
    }

    private long mixKept(long start, int c) {
        long h = start;
        for (int what = 0; what < 3; what++) {
            h = mix(h, kept(c, what));
        }
        keptSets.descend(history, c);
        for (int what = 0; what < 3; what++) {
            h = mix(h, walkPart(what));
        }
        return h;
    }

    private long mixPairs(long start, int c, int last) {
        painting.paint(history, c, last);
        long h = mix(start, painting.found);
        h = mix(h, painting.looked);
        looking.search(history, c, last, false);
        h = mix(h, looking.met ? 1 : 0);
        h = mix(h, looking.looked);
        looking.search(history, c, last, true);
        h = mix(h, looking.looked);
        paths.trace(history, last);
        h = mix(h, paths.waysTo(c));
        h = mix(h, paths.stepsTo(c));
        painting.paint(history, c, 0);
        h = mix(h, painting.found);
        looking.search(history, 0, c, false);
        return mix(h, looking.looked);
    }

    private long mixExchange(long start) {
        long h = start;
        for (int what = 0; what < 5; what++) {
            h = mix(h, exchange.setOf(what));
        }
        for (int i = 0; i < MOST_COMMITS; i++) {
            for (int what = 0; what < 3; what++) {
                h = mix(h, exchange.tellingPart(i, what));
            }
        }
        return mix(h, exchange.thingsSent(history));
    }

    private int finding(int number) {
        latestFinding = number;
        return -10 - number;
    }

    private Sheet sheetAt(int s) {
        return s >= 0 && s < SHEETS ? rows[s] : null;
    }

    private static boolean isForm(int form) {
        return form >= 0 && form < FORMS;
    }

    private static long mix(long h, long v) {
        return 31L * h + v;
    }

    private static long bit(int c) {
        return c >= 0 && c < MOST_COMMITS ? 1L << c : 0L;
    }

    private static boolean isIn(long set, int c) {
        return (set & bit(c)) != 0L;
    }

    private static int greatestIn(long set) {
        for (int c = MOST_COMMITS - 1; c >= 0; c--) {
            if (isIn(set, c)) {
                return c;
            }
        }
        return NONE;
    }

    /** The commits, what each one reaches, and the layers that they are sealed into. */
    private static final class History {
        final int[] first = new int[MOST_COMMITS];
        final int[] second = new int[MOST_COMMITS];
        final int[] thingBits = new int[MOST_COMMITS];
        final int[] ranks = new int[MOST_COMMITS];
        final long[] reached = new long[MOST_COMMITS];
        final int[] layerSizes = new int[MOST_COMMITS];
        int size;
        int sealed;
        int layers;

        boolean holds(int c) {
            return c >= 0 && c < size;
        }

        boolean isFull() {
            return size >= MOST_COMMITS;
        }

        boolean admits(int p, int q, int things) {
            if (things < 0 || things > ALL_THINGS) {
                return false;
            }
            if (p == NONE) {
                return q == NONE;
            }
            return holds(p) && (q == NONE || holds(q) && q != p);
        }

        void append(int p, int q, int things) {
            if (isFull()) {
                return;
            }
            int c = size;
            first[c] = p;
            second[c] = q;
            thingBits[c] = things;
            ranks[c] = 1 + Math.max(rankOf(p), rankOf(q));
            reached[c] = bit(c) | reachOf(p) | reachOf(q);
            size = c + 1;
        }

        void dropLast() {
            if (size > sealed) {
                size--;
            }
        }

        void sealRest() {
            if (size <= sealed || layers >= MOST_COMMITS) {
                return;
            }
            layerSizes[layers] = size - sealed;
            layers++;
            sealed = size;
            joinLayers();
        }

        private void joinLayers() {
            for (int step = 0; step < MOST_COMMITS && layers > 1; step++) {
                int ahead = layers - 2;
                int last = layers - 1;
                if (layerSizes[ahead] > 2 * layerSizes[last]) {
                    return;
                }
                layerSizes[ahead] += layerSizes[last];
                layers = last;
            }
        }

        int layerSize(int i) {
            return i >= 0 && i < layers ? layerSizes[i] : NONE;
        }

        int firstParent(int c) {
            return holds(c) ? first[c] : NONE;
        }

        int secondParent(int c) {
            return holds(c) ? second[c] : NONE;
        }

        long parentsOf(int c) {
            return bit(firstParent(c)) | bit(secondParent(c));
        }

        int childrenOf(int c) {
            int children = 0;
            for (int d = c + 1; d < size; d++) {
                if (isIn(parentsOf(d), c)) {
                    children++;
                }
            }
            return children;
        }

        int rankOf(int c) {
            return holds(c) ? ranks[c] : 0;
        }

        int generationOf(int c) {
            return c < sealed ? rankOf(c) : UNSEALED_GENERATION;
        }

        long reachOf(int c) {
            return holds(c) ? reached[c] : 0L;
        }

        long reachOfAll(long set) {
            long all = 0L;
            for (int c = 0; c < size; c++) {
                if (isIn(set, c)) {
                    all |= reached[c];
                }
            }
            return all;
        }

        /** Those of a set that no other one of it reaches. */
        long tipsOf(long set) {
            long below = 0L;
            for (int c = 0; c < size; c++) {
                if (isIn(set, c)) {
                    below |= reached[c] & ~bit(c);
                }
            }
            return set & ~below;
        }

        int thingsOf(long set) {
            int all = 0;
            for (int c = 0; c < size; c++) {
                if (isIn(set, c)) {
                    all |= thingBits[c];
                }
            }
            return all;
        }

        long fromGeneration(int least) {
            long all = 0L;
            for (int c = 0; c < size; c++) {
                if (generationOf(c) >= least) {
                    all |= bit(c);
                }
            }
            return all;
        }

        int topByGeneration(long pile) {
            int top = NONE;
            for (int c = 0; c < size; c++) {
                if (isIn(pile, c) && (top == NONE || generationOf(c) >= generationOf(top))) {
                    top = c;
                }
            }
            return top;
        }

        int topByRank(long pile) {
            int top = NONE;
            for (int c = 0; c < size; c++) {
                if (isIn(pile, c) && rankOf(c) >= rankOf(top)) {
                    top = c;
                }
            }
            return top;
        }
    }

    /** Looking for one commit from another one. */
    private static final class Looking {
        final int[] order = new int[MOST_COMMITS];
        int looked;
        boolean met;

        void search(History history, int a, int b, boolean plainly) {
            looked = 0;
            met = false;
            long allowed = plainly ? -1L : history.fromGeneration(history.generationOf(a));
            long pile = bit(b) & allowed;
            long been = pile;
            for (int step = 0; step < MOST_COMMITS && pile != 0L && !met; step++) {
                int c = history.topByGeneration(pile);
                order[step] = c;
                looked = step + 1;
                met = c == a;
                long parents = history.parentsOf(c) & allowed & ~been;
                pile = pile & ~bit(c) | parents;
                been |= parents;
            }
        }

        int lookedAt(int i) {
            return i >= 0 && i < looked ? order[i] : NONE;
        }
    }

    /** The colours that run down from two commits till all that is left is stale. */
    private static final class Painting {
        long one;
        long two;
        long stale;
        long pile;
        long been;
        long found;
        int looked;

        void paint(History history, int a, int b) {
            one = bit(a);
            two = bit(b);
            stale = 0L;
            pile = one | two;
            been = pile;
            found = 0L;
            looked = 0;
            for (int step = 0; step < MOST_COMMITS && (pile & ~stale) != 0L; step++) {
                int c = history.topByGeneration(pile);
                pile &= ~bit(c);
                looked++;
                found |= bit(c) & one & two & ~stale;
                passOn(c, history.parentsOf(c));
            }
        }

        private void passOn(int c, long parents) {
            if (isIn(stale | one & two, c)) {
                stale |= parents;
            }
            if (isIn(one, c)) {
                one |= parents;
            }
            if (isIn(two, c)) {
                two |= parents;
            }
            pile |= parents & ~been;
            been |= parents;
        }
    }

    /** How many ways go down from one commit to each other one, and the shortest. */
    private static final class Paths {
        final long[] ways = new long[MOST_COMMITS];
        final int[] steps = new int[MOST_COMMITS];

        void trace(History history, int from) {
            for (int c = 0; c < MOST_COMMITS; c++) {
                ways[c] = c == from ? 1L : 0L;
                steps[c] = c == from ? 0 : NONE;
            }
            // Parents have less numbers, so each is complete when its turn comes.
            for (int c = history.size - 1; c >= 0; c--) {
                if (ways[c] != 0L) {
                    passOn(c, history.firstParent(c));
                    passOn(c, history.secondParent(c));
                }
            }
        }

        private void passOn(int c, int parent) {
            if (parent < 0 || parent >= MOST_COMMITS) {
                return;
            }
            ways[parent] += ways[c];
            if (steps[parent] == NONE || steps[parent] > steps[c] + 1) {
                steps[parent] = steps[c] + 1;
            }
        }

        long waysTo(int c) {
            return c >= 0 && c < MOST_COMMITS ? ways[c] : 0L;
        }

        int stepsTo(int c) {
            return c >= 0 && c < MOST_COMMITS ? steps[c] : NONE;
        }
    }

    /** The commits whose sets are kept, and the walk that makes use of them. */
    private static final class KeptSets {
        int every = 4;
        int looked;
        int used;
        long found;

        boolean isKept(int c) {
            return every > 0 && (c + 1) % every == 0;
        }

        int rootOf(History history, int c) {
            for (int r = c - 1; r >= 0; r--) {
                if (isKept(r) && isIn(history.reachOf(c), r)) {
                    return r;
                }
            }
            return NONE;
        }

        int shareSize(History history, int c) {
            long beyond = history.reachOf(rootOf(history, c));
            return Long.bitCount(history.reachOf(c) & ~beyond);
        }

        int rootsBehind(History history, int c) {
            int roots = 0;
            int root = rootOf(history, c);
            for (int step = 0; step < MOST_COMMITS && root != NONE; step++) {
                roots++;
                root = rootOf(history, root);
            }
            return roots;
        }

        void descend(History history, int from) {
            looked = 0;
            used = 0;
            found = 0L;
            long pile = bit(from);
            // What is put there is less than what was taken off, so none comes off twice.
            for (int step = 0; step < MOST_COMMITS && pile != 0L; step++) {
                int c = greatestIn(pile);
                pile &= ~bit(c);
                if (isIn(found, c)) {
                    continue;
                }
                if (isKept(c)) {
                    found |= history.reachOf(c);
                    used++;
                } else {
                    found |= bit(c);
                    looked++;
                    pile |= history.parentsOf(c);
                }
            }
        }
    }

    /** What the taker has, what is wanted, and the rounds in which it is told. */
    private static final class Exchange {
        long had;
        long wanted;
        int per = 2;
        int haste;
        final int[] toldCommits = new int[MOST_COMMITS];
        final int[] toldRounds = new int[MOST_COMMITS];
        int tellings;
        int held;
        long pile;
        long been;
        long common;
        long given;

        void forget(int c) {
            had &= ~bit(c);
            wanted &= ~bit(c);
        }

        void talk(History history) {
            given = history.reachOfAll(wanted);
            pile = history.tipsOf(had);
            been = pile;
            common = 0L;
            tellings = 0;
            held = 0;
            // A round takes at least one off, and none is put there twice.
            for (int step = 0; step < MOST_COMMITS && pile != 0L; step++) {
                int from = tellings;
                tell(history);
                // Only common ones were left: taken off as nothing, they make no round.
                if (tellings == from) {
                    return;
                }
                answer(history, from);
                held++;
                if (haste == 1 && isServed(history)) {
                    return;
                }
            }
        }

        private void tell(History history) {
            int left = per;
            for (int step = 0; step < MOST_COMMITS && left > 0 && pile != 0L; step++) {
                int c = history.topByRank(pile);
                pile &= ~bit(c);
                if (isIn(common, c) || tellings >= MOST_COMMITS) {
                    continue;
                }
                toldCommits[tellings] = c;
                toldRounds[tellings] = held;
                tellings++;
                left--;
            }
        }

        private void answer(History history, int from) {
            for (int i = from; i < tellings && i < MOST_COMMITS; i++) {
                int c = toldCommits[i];
                if (isIn(given, c)) {
                    common |= history.reachOf(c);
                } else {
                    long parents = history.parentsOf(c) & ~common & ~been;
                    pile |= parents;
                    been |= parents;
                }
            }
        }

        private boolean isServed(History history) {
            for (int c = 0; c < history.size; c++) {
                if (isIn(wanted, c) && (history.reachOf(c) & common) == 0L) {
                    return false;
                }
            }
            return true;
        }

        long setOf(int what) {
            switch (what) {
                case 0:
                    return had;
                case 1:
                    return wanted;
                case 2:
                    return common;
                case 3:
                    return given & ~common;
                default:
                    return given & ~common & had;
            }
        }

        int tellingPart(int i, int what) {
            if (i < 0 || i >= tellings || i >= MOST_COMMITS) {
                return NONE;
            }
            switch (what) {
                case 0:
                    return toldCommits[i];
                case 1:
                    return isIn(given, toldCommits[i]) ? 1 : 0;
                default:
                    return toldRounds[i];
            }
        }

        int thingsSent(History history) {
            return history.thingsOf(given & ~common) & ~history.thingsOf(common);
        }
    }

    /** A row of items of one form, or lost. */
    private static final class Sheet {
        final int[] items = new int[MOST_ITEMS];
        int form;
        int length = LOST;

        boolean isLost() {
            return length < 0;
        }

        void renew(int newForm, int n) {
            form = newForm;
            length = Math.max(0, Math.min(n, MOST_ITEMS));
            for (int i = 0; i < MOST_ITEMS; i++) {
                items[i] = 0;
            }
        }

        /** The finding that item i, treated as of a form, leads to; 0 if none. */
        int faultAt(int asForm, int i) {
            if (isLost()) {
                return NULL_FOUND;
            }
            if (asForm != form) {
                return CAST_FOUND;
            }
            return hasItem(i) ? 0 : INDEX_FOUND;
        }

        boolean hasItem(int i) {
            return i >= 0 && i < length && i < MOST_ITEMS;
        }

        // The subtraction cannot wrap where a sum of i and n could.
        boolean hasRun(int i, int n) {
            return i >= 0 && n >= 0 && i <= length && n <= length - i;
        }

        int itemAt(int i) {
            return hasItem(i) ? items[i] : 0;
        }

        void store(int i, int v) {
            if (hasItem(i)) {
                items[i] = narrowed(v);
            }
        }

        private int narrowed(int v) {
            switch (form) {
                case 0:
                    return (byte) v;
                case 1:
                    return (short) v;
                default:
                    return v;
            }
        }
    }
}
