import java.io.IOException;
import java.util.List;
import java.util.function.Supplier;
import java.util.function.ToLongFunction;

/** The boundary cases of the promises: at the bound, one below it and one above it; empty and full; one method a promise. */
public final class BoundsTest extends Sentences {
    private BoundsTest(String[] args) throws IOException {
        super(args);
    }

    public static void main(String[] args) throws IOException {
        BoundsTest test = new BoundsTest(args);
        test.commits();
        test.whatIsReached();
        test.keptSets();
        test.giverAndTaker();
        test.sheets();
        test.checks.part("promises met");
        for (int promise = 1; promise <= Document.PROMISES; promise++) {
            test.checks.holds("promise " + promise, test.partsMet.contains(promise));
        }
        test.checks.end();
    }

    private void commits() {
        newObject();
        parents();
        things();
        addTillFull();
        back();
        backForgets();
        readWholeOnes();
        readAsLongAsEachMayBe();
        seal();
        layer();
        set();
        commit();
    }

    private void whatIsReached() {
        reach();
        look();
        basesAndPaints();
        ways();
        far();
    }

    private void keptSets() {
        kept();
        walk();
    }

    private void giverAndTaker() {
        has();
        want();
        clear();
        sets();
        rounds();
        told();
        thingsThatGo();
    }

    private void sheets() {
        sheet();
        lose();
        lay();
        lowestBits();
        get();
        copyIndexes();
        copyAsTheyWere();
        write();
        count();
        latestFinding();
        digest();
    }

    // ---- commits

    private void newObject() {
        sentence(1, "No COMMITS, nothing SEALED, HAD or WANTED, EVERY 4, PER 2, HASTE 0; all SHEETS are LOST.");
        CommitIndex used = laid(with(with(with(sealed(chain(5)), 0, 3), 1, 5), 2, 1), 0, 1, 4);
        used.has(2);
        used.want(4);
        used.lose(3);
        CommitIndex x = new CommitIndex();
        for (int what = 0; what <= 8; what++) due("count " + what, x.count(what), 0);
        for (int what = 0; what <= 4; what++) due("sets " + what, x.sets(what), 0);
        due("no commit", x.commit(0, 0), BAD);
        due("no layer", x.layer(0), NONE);
        due("every", x.set(0, 1), 4);
        due("per", x.set(1, 1), 2);
        due("haste", x.set(2, 1), 0);
        for (int s = 0; s <= 3; s++) due("sheet " + s, x.lose(s), NULL_);
    }

    private void parents() {
        sentence(2, "A COMMIT more, with PARENTS p and q (NONE: none; q: NONE, if p is; unlike)");
        Supplier<CommitIndex> three = () -> chain(3);
        range("p alone", three, NONE, 2, BAD, (x, v) -> x.add(v, NONE, 0));
        range("q beside 2", three, NONE, 1, BAD, (x, v) -> x.add(2, v, 0));
        range("q beside none", three, NONE, NONE, BAD, (x, v) -> x.add(NONE, v, 0));
        range("p beside 2", three, 0, 1, BAD, (x, v) -> x.add(v, 2, 0));
        refused("q is p", three, x -> x.add(1, 1, 0), BAD);
        range("p of the first", CommitIndex::new, NONE, NONE, BAD, (x, v) -> x.add(v, NONE, 0));
        range("q of the first", CommitIndex::new, NONE, NONE, BAD, (x, v) -> x.add(NONE, v, 0));
        range("p of the 40th", () -> chain(39), NONE, 38, BAD, (x, v) -> x.add(v, NONE, 0));
        range("q of the 40th", () -> chain(39), NONE, 37, BAD, (x, v) -> x.add(38, v, 0));
        CommitIndex x = three.get();
        due("how many", x.add(2, 0, 0), 4);
        due("p", x.commit(3, 0), 2);
        due("q", x.commit(3, 1), 0);
    }

    private void things() {
        sentence(2, "and THINGS (0 to 1048575): how many.");
        range("things", () -> chain(3), 0, 1048575, BAD, (x, v) -> x.add(0, NONE, v));
        CommitIndex x = chain(1);
        due("none", x.add(0, NONE, 0), 2);
        due("none", x.commit(1, 4), 0);
        due("all", x.add(0, NONE, 1048575), 3);
        due("all", x.commit(2, 4), 1048575);
    }

    private void addTillFull() {
        sentence(2, "BAD; FULL.");
        CommitIndex x = new CommitIndex();
        for (int n = 1; n <= 40; n++) due("add", x.add(n - 2, NONE, 0), n);
        Supplier<CommitIndex> forty = () -> chain(40);
        for (int p = NONE; p < 40; p++) {
            int parent = p;
            refused("full, p " + p, forty, y -> y.add(parent, NONE, 0), FULL);
        }
        refused("full, two parents", forty, y -> y.add(39, 38, 1048575), FULL);
        refused("full and sealed", () -> sealed(chain(40)), y -> y.add(0, NONE, 0), FULL);
        due("one less again", x.back(), 39);
        due("not full any more", x.add(0, NONE, 0), 40);
        due("full again", x.add(0, NONE, 0), FULL);
    }

    private void back() {
        sentence(3, "NOT: there is none, or it is SEALED.");
        refused("none", CommitIndex::new, CommitIndex::back, NOT);
        refused("all are sealed", () -> sealed(chain(3)), CommitIndex::back, NOT);
        refused("forty are sealed", () -> sealed(chain(40)), CommitIndex::back, NOT);
        CommitIndex x = chain(1);
        due("the only one", x.back(), 0);
        due("none is left", x.back(), NOT);
        x = sealed(chain(3));
        grow(x, 2, NONE, 2, NONE);
        due("one of two", x.back(), 4);
        due("two of two", x.back(), 3);
        due("that is sealed", x.back(), NOT);
        x = chain(40);
        for (int left = 39; left >= 0; left--) due("back", x.back(), left);
        due("none is left of forty", x.back(), NOT);
    }

    private void backForgets() {
        sentence(3, "The last COMMIT is undone (and no more HAD, WANTED): how many are left.");
        CommitIndex x = chain(3);
        x.has(2);
        x.want(2);
        x.want(1);
        due("left", x.back(), 2);
        due("had", x.sets(0), 0b11);
        due("wanted", x.sets(1), 0b10);
        due("there is no 2", x.reach(2), BAD_LONG);
        due("1 has no child", x.commit(1, 5), 0);
        grow(x, NONE, NONE);
        due("a new 2 is not had", x.sets(0), 0b11);
        due("a new 2 is not wanted", x.want(2), 2);
        due("a new 2 reaches itself", x.reach(2), 0b100);
        due("a new 2 has another rank", x.commit(2, 2), 1);
        x = chain(40);
        x.has(39);
        x.want(39);
        due("the 40th", x.back(), 39);
        due("had", x.count(3), 39);
        due("wanted", x.count(4), 0);
    }

    private void readWholeOnes() {
        sentence(4, "its items, three for each, as many as are whole");
        for (int n = 0; n <= 60; n++) {
            CommitIndex x = laid(new CommitIndex(), 0, 0, noParents(n));
            due("of " + n + " items", x.read(0), n / 3);
            due("of " + n + " items, commits", x.count(0), n / 3);
        }
        for (int form = 0; form <= 2; form++) {
            CommitIndex x = laid(chain(2), 3, form, 1, 0, 127, 2, NONE, 0);
            due("form " + form, x.read(3), 2);
            due("p", x.commit(2, 0), 1);
            due("q", x.commit(2, 1), 0);
            due("things", x.commit(2, 4), 127);
            due("q is none", x.commit(3, 1), NONE);
            due("the sheet stays", x.get(3, form, 2), 127);
        }
        refused("of a lost one", () -> chain(2), x -> x.read(0), NULL_);
        range("sheet", () -> fourSheets(chain(2)), 0, 3, BAD, CommitIndex::read);
    }

    private static int[] noParents(int n) {
        int[] items = new int[n];
        for (int i = 0; i < n; i++) items[i] = i % 3 == 2 ? 0 : NONE;
        return items;
    }

    private static CommitIndex fourSheets(CommitIndex x) {
        for (int s = 0; s <= 3; s++) laid(x, s, 2, 0, NONE, 5, 7 + s);
        return x;
    }

    private void readAsLongAsEachMayBe() {
        sentence(4, "as long as each may be: how many.");
        due("the first may not", laid(chain(2), 0, 2, 2, NONE, 0, 0, NONE, 0).read(0), 0);
        due("the second may not", laid(chain(2), 0, 2, 0, NONE, 0, 0, 0, 0, 0, NONE, 0).read(0), 1);
        due("the third may not", laid(chain(2), 0, 2, 0, NONE, 0, 0, 1, 0, 0, NONE, -1).read(0), 2);
        due("none is taken behind it", readThenCount(laid(chain(2), 0, 2, 0, NONE, 0, 0, 0, 0, 0, NONE, 0)), 3);
        due("one that is there by then", laid(chain(2), 0, 2, 1, NONE, 0, 2, NONE, 0).read(0), 2);
        due("one that is not there yet", laid(chain(2), 0, 2, 2, NONE, 0, 2, NONE, 0).read(0), 0);
        due("p is none, q is not", laid(chain(2), 0, 2, NONE, 0, 0).read(0), 0);
        due("all things", laid(chain(2), 0, 2, NONE, NONE, 1048575).read(0), 1);
        due("one thing too many", laid(chain(2), 0, 2, NONE, NONE, 1048576).read(0), 0);
        due("a byte below 0", laid(chain(2), 0, 0, NONE, NONE, 128).read(0), 0);
        for (int n = 36; n <= 40; n++) {
            CommitIndex x = laid(chain(n), 0, 1, noParents(9));
            due("till full, from " + n, x.read(0), Math.min(3, 40 - n));
            due("till full, from " + n + ", commits", x.count(0), Math.min(40, n + 3));
        }
    }

    private static int readThenCount(CommitIndex x) {
        x.read(0);
        return x.count(0);
    }

    private void seal() {
        sentence(5, "NOT: there are none that are not.");
        refused("no commits", CommitIndex::new, CommitIndex::seal, NOT);
        refused("all are", () -> sealed(chain(3)), CommitIndex::seal, NOT);
        refused("all forty are", () -> sealed(chain(40)), CommitIndex::seal, NOT);
        CommitIndex x = chain(1);
        due("one is not", x.seal(), 1);
        due("sealed", x.count(1), 1);
        x = chain(40);
        due("forty are not", x.seal(), 1);
        due("sealed", x.count(1), 40);
        x = sealed(chain(3));
        grow(x, 0, NONE);
        x.back();
        due("one was not, but is undone", x.seal(), NOT);
        sentence(5, "All that are not SEALED are: how many LAYERS.");
        x = sealed(chain(3));
        grow(x, 0, NONE);
        due("3 and 1", x.seal(), 2);
        x = sealed(chain(2));
        grow(x, 0, NONE);
        due("2 and 1 are one", x.seal(), 1);
        due("sealed", x.count(1), 3);
    }

    private void layer() {
        sentence(6, "How many COMMITS the i-th LAYER has (0 to 39; NONE). BAD.");
        Supplier<CommitIndex> two = () -> {
            CommitIndex x = sealed(chain(5));
            return sealed(grow(x, 0, NONE, 0, NONE));
        };
        range("i", two, 0, 39, BAD, CommitIndex::layer);
        due("the first", two.get().layer(0), 5);
        due("the last", two.get().layer(1), 2);
        due("one behind it", two.get().layer(2), NONE);
        due("the last that may be", two.get().layer(39), NONE);
        due("none is sealed", chain(5).layer(0), NONE);
        due("forty", sealed(chain(40)).layer(0), 40);
    }

    private void set() {
        sentence(7, "EVERY (what = 0), PER (1), HASTE (2: 0, 1): what it was. BAD.");
        Supplier<CommitIndex> state = () -> with(with(with(chain(3), 0, 7), 1, 5), 2, 1);
        range("what", state, 0, 2, BAD, (x, v) -> x.set(v, 1));
        range("every", state, 1, 10, BAD, (x, v) -> x.set(0, v));
        range("per", state, 1, 8, BAD, (x, v) -> x.set(1, v));
        range("haste", state, 0, 1, BAD, (x, v) -> x.set(2, v));
        CommitIndex x = state.get();
        due("every was", x.set(0, 1), 7);
        due("every was least", x.set(0, 10), 1);
        due("every was most", x.set(0, 10), 10);
        due("per was", x.set(1, 1), 5);
        due("per was least", x.set(1, 8), 1);
        due("per was most", x.set(1, 8), 8);
        due("haste was", x.set(2, 0), 1);
        due("haste was 0", x.set(2, 0), 0);
    }

    private void commit() {
        sentence(8, "Its PARENTS (what = 0, 1; NONE), RANK (2), GENERATION (3), THINGS (4),"
            + " how many it is a PARENT of (5). BAD.");
        range("c", () -> chain(3), 0, 2, BAD, (x, v) -> x.commit(v, 5));
        range("c of forty", () -> chain(40), 0, 39, BAD, (x, v) -> x.commit(v, 0));
        range("what", () -> chain(3), 0, 5, BAD, (x, v) -> x.commit(2, v));
        refused("c of none", CommitIndex::new, x -> x.commit(0, 0), BAD);
        CommitIndex x = sealed(grown(NONE, NONE, 0, NONE, 1, 0));
        int[][] rows = {{NONE, NONE, 1, 1, 1, 2}, {0, NONE, 2, 2, 2, 1}, {1, 0, 3, 3, 4, 0}};
        for (int c = 0; c < rows.length; c++) {
            for (int what = 0; what <= 5; what++) due("commit " + c + ", " + what, x.commit(c, what), rows[c][what]);
        }
        x = roots(1);
        for (int n = 2; n <= 40; n++) x.add(0, NONE, 0);
        due("the most it can be a parent of", x.commit(0, 5), 39);
    }

    // ---- what is reached

    private void reach() {
        sentence(9, "All that it REACHES, as bits. BAD. (As the least long.)");
        range("c", () -> chain(3), 0, 2, BAD_LONG, CommitIndex::reach);
        range("c of forty", () -> chain(40), 0, 39, BAD_LONG, CommitIndex::reach);
        refused("c of none", CommitIndex::new, x -> x.reach(0), BAD_LONG);
        due("itself alone", roots(40).reach(39), 1L << 39);
        due("all forty", chain(40).reach(39), ALL_FORTY);
        for (int c : new int[] {30, 31, 32, 33}) due("bits from 31 on", chain(40).reach(c), (1L << c + 1) - 1);
    }

    private void look() {
        sentence(10, "whether b REACHES a (what = 0: 1, 0), how many are LOOKED AT (1), PLAINLY (2). BAD.");
        Supplier<CommitIndex> three = () -> chain(3);
        range("a", three, 0, 2, BAD, (x, v) -> x.look(v, 2, 0));
        range("b", three, 0, 2, BAD, (x, v) -> x.look(0, v, 0));
        range("what", three, 0, 2, BAD, (x, v) -> x.look(0, 2, v));
        refused("none", CommitIndex::new, x -> x.look(0, 0, 0), BAD);
        due("reaches", three.get().look(0, 2, 0), 1);
        due("reaches itself", three.get().look(2, 2, 0), 1);
        due("does not", three.get().look(2, 1, 0), 0);
        due("all forty are looked at", sealed(chain(40)).look(0, 39, 1), 40);
        due("all forty, plainly", sealed(chain(40)).look(0, 39, 2), 40);
        due("the last one from the first", sealed(chain(40)).look(39, 0, 1), 0);
        due("not sealed", chain(40).look(39, 0, 1), 1);
    }

    private void basesAndPaints() {
        Supplier<CommitIndex> three = () -> chain(3);
        sentence(11, "BASES of two, as bits. BAD. (As the least long.)");
        range("a", three, 0, 2, BAD_LONG, (x, v) -> x.bases(v, 2));
        range("b", three, 0, 2, BAD_LONG, (x, v) -> x.bases(0, v));
        refused("none", CommitIndex::new, x -> x.bases(0, 0), BAD_LONG);
        due("the last bit", chain(40).bases(39, 39), 1L << 39);
        due("the first bit", chain(40).bases(39, 0), 1);
        due("no base", roots(40).bases(39, 38), 0);
        sentence(12, "How many are LOOKED AT for BASES. BAD.");
        range("a", three, 0, 2, BAD, (x, v) -> x.paints(v, 2));
        range("b", three, 0, 2, BAD, (x, v) -> x.paints(0, v));
        refused("none", CommitIndex::new, x -> x.paints(0, 0), BAD);
        due("one", chain(40).paints(39, 39), 1);
        due("all forty", chain(40).paints(39, 0), 40);
        due("all forty, turned", sealed(chain(40)).paints(0, 39), 40);
    }

    private void ways() {
        sentence(13, "How many ways there are from b to a by PARENTS (1: a and b are one; 0). BAD. (As the least long.)");
        Supplier<CommitIndex> three = () -> chain(3);
        range("a", three, 0, 2, BAD_LONG, (x, v) -> x.ways(v, 2));
        range("b", three, 0, 2, BAD_LONG, (x, v) -> x.ways(0, v));
        refused("none", CommitIndex::new, x -> x.ways(0, 0), BAD_LONG);
        due("one", three.get().ways(1, 1), 1);
        due("no way up", three.get().ways(2, 1), 0);
        due("no way aside", roots(2).ways(0, 1), 0);
        CommitIndex x = grown(NONE, NONE, 0, NONE);
        for (int c = 2; c < 40; c++) grow(x, c - 2, c - 1);
        due("the most there can be", x.ways(0, 39), 102334155L);
        due("one, in the midst of many", x.ways(20, 20), 1);
    }

    private void far() {
        sentence(14, "How many PARENTS the shortest goes by; NONE: there is no way. BAD.");
        Supplier<CommitIndex> three = () -> chain(3);
        range("a", three, 0, 2, BAD, (x, v) -> x.far(v, 2));
        range("b", three, 0, 2, BAD, (x, v) -> x.far(0, v));
        refused("none", CommitIndex::new, x -> x.far(0, 0), BAD);
        due("one", three.get().far(1, 1), 0);
        due("no way up", three.get().far(2, 1), NONE);
        due("no way aside", roots(2).far(0, 1), NONE);
        due("the farthest there can be", chain(40).far(0, 39), 39);
        due("no way aside, to one with a child", grown(NONE, NONE, NONE, NONE, 0, NONE).far(0, 1), NONE);
        due("not by a child that is not reached", grown(NONE, NONE, 0, NONE, 1, NONE, 0, NONE).far(0, 2), 2);
        due("shorter by one, by the lesser child", grown(NONE, NONE, 0, NONE, 0, NONE, 2, NONE, 3, 1).far(0, 4), 2);
        due("shorter by one, by q", grown(NONE, NONE, 0, NONE, 1, 0).far(0, 2), 1);
        due("the shortest by q", grown(NONE, NONE, 0, NONE, 1, NONE, 2, 0).far(0, 3), 1);
        due("the shortest by p", grown(NONE, NONE, 0, NONE, 1, NONE, 0, 2).far(0, 3), 1);
    }

    // ---- kept sets

    private void kept() {
        sentence(15, "Of one that is KEPT the ROOT (what = 0; NONE), how many are in its SHARE (1),"
            + " how many ROOTS there are one behind another (2).");
        range("c", () -> with(chain(3), 0, 1), 0, 2, BAD, (x, v) -> x.kept(v, 0));
        range("what", () -> chain(4), 0, 2, BAD, (x, v) -> x.kept(3, v));
        CommitIndex x = with(chain(40), 0, 1);
        due("no root", x.kept(0, 0), NONE);
        due("a share of one", x.kept(0, 1), 1);
        due("no roots", x.kept(0, 2), 0);
        due("the one ahead", x.kept(39, 0), 38);
        due("the most roots there can be", x.kept(39, 2), 39);
        x = with(chain(40), 0, 10);
        due("the first that is kept", x.kept(9, 0), NONE);
        due("its share", x.kept(9, 1), 10);
        due("its roots", x.kept(9, 2), 0);
        due("the last", x.kept(39, 0), 29);
        due("its roots", x.kept(39, 2), 3);
        sentence(15, "BAD; NOT: it is not KEPT.");
        for (int c : new int[] {0, 2, 4, 6, 8, 38}) refused("not kept, " + c, () -> chain(40), y -> y.kept(c, 0), NOT);
        for (int c : new int[] {3, 7, 39}) checks.holds("kept, " + c, chain(40).kept(c, 1) > 0);
    }

    private void walk() {
        sentence(16, "A WALK: how many are LOOKED AT (what = 0), USED (1), found (2). BAD.");
        range("c", () -> chain(5), 0, 4, BAD, (x, v) -> x.walk(v, 0));
        range("what", () -> chain(5), 0, 2, BAD, (x, v) -> x.walk(4, v));
        refused("none", CommitIndex::new, x -> x.walk(0, 0), BAD);
        CommitIndex x = with(chain(40), 0, 10);
        int[][] rows = {{0, 1, 0, 1}, {8, 9, 0, 9}, {9, 0, 1, 10}, {10, 1, 1, 11}, {39, 0, 1, 40}, {38, 9, 1, 39}};
        for (int[] row : rows) {
            for (int what = 0; what <= 2; what++) due("walk of " + row[0] + ", " + what, x.walk(row[0], what), row[what + 1]);
        }
        x = with(roots(39), 0, 10);
        grow(x, 0, 1);
        due("kept: found", x.walk(39, 2), 3);
        due("kept: none is looked at", x.walk(39, 0), 0);
        walkOfAllForty();
    }

    /** Kept are 8, 17, 26 and 35, without parents; so all forty come on the pile, and 0 is taken off last. */
    private void walkOfAllForty() {
        CommitIndex x = with(roots(1), 0, 9);
        for (int c = 1; c < 40; c++) {
            boolean isKept = (c + 1) % 9 == 0;
            boolean isBehindKept = c % 9 == 0;
            if (isKept) grow(x, NONE, NONE);
            else if (isBehindKept) grow(x, c - 1, c - 2);
            else grow(x, c - 1, NONE);
        }
        due("forty: looked at", x.walk(39, 0), 36);
        due("forty: used", x.walk(39, 1), 4);
        due("forty: found", x.walk(39, 2), 40);
    }

    // ---- giver and taker

    private void has() {
        sentence(17, "THE TAKER HAS it and all that it REACHES: how many it HAS. BAD.");
        range("c", () -> chain(3), 0, 2, BAD, CommitIndex::has);
        refused("none", CommitIndex::new, x -> x.has(0), BAD);
        CommitIndex x = chain(40);
        due("itself alone", x.has(0), 1);
        due("all forty", x.has(39), 40);
        due("again", x.has(39), 40);
        due("less", x.has(0), 40);
        due("as bits", x.sets(0), ALL_FORTY);
        range("c, all are had", () -> hadAll(3), 0, 2, BAD, CommitIndex::has);
    }

    private static CommitIndex hadAll(int n) {
        CommitIndex x = chain(n);
        x.has(n - 1);
        return x;
    }

    private void want() {
        sentence(18, "It is WANTED: how many are. BAD; NOT: it is already.");
        range("c", () -> chain(3), 0, 2, BAD, CommitIndex::want);
        refused("none", CommitIndex::new, x -> x.want(0), BAD);
        CommitIndex x = chain(40);
        for (int c = 39; c >= 0; c--) due("want " + c, x.want(c), 40 - c);
        for (int c = 0; c < 40; c++) due("already " + c, x.want(c), NOT);
        due("as bits", x.sets(1), ALL_FORTY);
        refused("already", () -> wanting(chain(3), 2), y -> y.want(2), NOT);
        due("reached, but not wanted yet", wanting(chain(3), 2).want(1), 2);
        due("had is not wanted", hadAll(3).want(2), 1);
    }

    private static CommitIndex wanting(CommitIndex x, int c) {
        x.want(c);
        return x;
    }

    private void clear() {
        sentence(19, "Nothing is HAD (what = 0), WANTED (1): how many were. BAD.");
        range("what", () -> wanting(hadAll(3), 1), 0, 1, BAD, CommitIndex::clear);
        due("none was had", chain(3).clear(0), 0);
        due("none was wanted", chain(3).clear(1), 0);
        due("no commits", new CommitIndex().clear(0), 0);
        CommitIndex x = hadAll(40);
        for (int c = 0; c < 40; c++) x.want(c);
        due("all were had", x.clear(0), 40);
        due("all are wanted yet", x.count(4), 40);
        due("all were wanted", x.clear(1), 40);
        due("none was any more", x.clear(0), 0);
        due("none was any more", x.clear(1), 0);
    }

    private void sets() {
        sentence(20, "What THE TAKER HAS (what = 0), what is WANTED (1), COMMON (2), SENT (3), VAIN (4), as bits. BAD.");
        range("what", () -> wanting(hadAll(3), 1), 0, 4, BAD_LONG, CommitIndex::sets);
        CommitIndex x = wanting(hadAll(40), 39);
        long[] all = {ALL_FORTY, 1L << 39, ALL_FORTY, 0, 0};
        for (int what = 0; what <= 4; what++) due("all is common, " + what, x.sets(what), all[what]);
        x.clear(0);
        long[] none = {0, 1L << 39, 0, ALL_FORTY, 0};
        for (int what = 0; what <= 4; what++) due("none is had, " + what, x.sets(what), none[what]);
    }

    private void rounds() {
        sentence(21, "How many ROUNDS.");
        due("no commits", new CommitIndex().rounds(), 0);
        due("none is had", wanting(chain(3), 2).rounds(), 0);
        due("one", hadAll(1).rounds(), 1);
        due("the most there can be", hadAll(40).rounds(), 40);
        due("in one, all is common", wanting(hadAll(40), 39).rounds(), 1);
        due("the last is answered as common", wanting(hadAll(40), 0).rounds(), 40);
        due("the last but one", wanting(hadAll(40), 1).rounds(), 39);
    }

    private void told() {
        sentence(22, "The i-th that is TOLD (0 to 39; what = 0), whether it is answered as COMMON (1: 1, 0),"
            + " in which ROUND (2: 0 on); NONE. BAD.");
        range("i", () -> wanting(hadAll(3), 1), 0, 39, BAD, (x, v) -> x.told(v, 0));
        range("what", () -> wanting(hadAll(3), 1), 0, 2, BAD, (x, v) -> x.told(0, v));
        CommitIndex x = wanting(hadAll(3), 1);
        int[][] rows = {{2, 0, 0}, {1, 1, 1}, {NONE, NONE, NONE}};
        for (int i = 0; i < rows.length; i++) {
            for (int what = 0; what <= 2; what++) due("told " + i + ", " + what, x.told(i, what), rows[i][what]);
        }
        x = wanting(hadAll(40), 0);
        due("the 39th", x.told(38, 0), 1);
        due("the 40th", x.told(39, 0), 0);
        due("the 40th, as common", x.told(39, 1), 1);
        due("the 40th, its round", x.told(39, 2), 39);
        refused("none is told", CommitIndex::new, y -> y.told(40, 0), BAD);
        due("none is told", new CommitIndex().told(0, 0), NONE);
        due("none is told", new CommitIndex().told(39, 2), NONE);
    }

    private void thingsThatGo() {
        sentence(23, "THINGS that go with it, as bits.");
        due("no commits", new CommitIndex().things(), 0);
        due("none is wanted", hadAll(3).things(), 0);
        due("all twenty", wanting(chain(20), 19).things(), 1048575);
        due("all twenty, twice", wanting(chain(40), 39).things(), 1048575);
        due("the first", wanting(roots(20), 0).things(), 1);
        due("the last", wanting(roots(20), 19).things(), 1 << 19);
        due("none, as all are common", wanting(hadAll(20), 19).things(), 0);
    }

    // ---- sheets

    private void sheet() {
        sentence(24, "A SHEET is a new row of a FORM with n items: n. BAD: SHEET, FORM, above 60; SIZE.");
        Supplier<CommitIndex> state = () -> fourSheets(chain(2));
        range("s", state, 0, 3, BAD, (x, v) -> x.sheet(v, 2, 5));
        range("form", state, 0, 2, BAD, (x, v) -> x.sheet(0, v, 5));
        for (int n = 0; n <= 60; n++) {
            CommitIndex x = state.get();
            due("items", x.sheet(1, 1, n), n);
            due("so many", x.lose(1), n);
        }
        refused("above 60", state, x -> x.sheet(0, 2, 61), BAD);
        refused("far above", state, x -> x.sheet(0, 2, MAX), BAD);
        refused("below 0", state, x -> x.sheet(0, 2, -1), SIZE);
        refused("far below 0", state, x -> x.sheet(0, 2, MIN), SIZE);
        refused("below 0, lost as it is", CommitIndex::new, x -> x.sheet(0, 2, -1), SIZE);
        CommitIndex x = laid(laid(chain(2), 0, 2, 6, 7, 8, 9), 1, 2, 6, 7, 8, 9);
        due("a new row of as many", x.sheet(0, 2, 4), 4);
        for (int i = 0; i < 4; i++) due("0 at first", x.get(0, 2, i), 0);
        for (int i = 0; i < 4; i++) due("the others are as they were", x.get(1, 2, i), 6 + i);
        due("shorter, then longer", x.sheet(1, 2, 2) + x.sheet(1, 2, 4), 6);
        for (int i = 0; i < 4; i++) due("0 at first", x.get(1, 2, i), 0);
        x = laid(chain(2), 0, 2, 6, 7, 8, 9);
        due("lost", x.lose(0), 4);
        due("a new row of another form", x.sheet(0, 0, 4), 4);
        for (int i = 0; i < 4; i++) due("0 at first", x.get(0, 0, i), 0);
    }

    private void lose() {
        sentence(25, "It is LOST: how many items it had. BAD; NULL.");
        range("s", () -> fourSheets(chain(2)), 0, 3, BAD, CommitIndex::lose);
        for (int n : new int[] {0, 1, 59, 60}) {
            CommitIndex x = new CommitIndex();
            x.sheet(2, 0, n);
            due("items", x.lose(2), n);
            due("lost", x.lose(2), NULL_);
        }
        for (int s = 0; s <= 3; s++) {
            int at = s;
            refused("lost, " + s, CommitIndex::new, x -> x.lose(at), NULL_);
            CommitIndex x = fourSheets(chain(2));
            x.lose(s);
            for (int t = 0; t <= 3; t++) due("the others are not, " + s + ", " + t, x.lose(t), s == t ? NULL_ : 4);
        }
    }

    private void lay() {
        sentence(26, "BAD; NULL; CAST; INDEX.");
        Supplier<CommitIndex> state = () -> fourSheets(chain(2));
        range("s", state, 0, 3, BAD, (x, v) -> x.lay(v, 2, 0, 9));
        range("i", state, 0, 3, INDEX, (x, v) -> x.lay(0, 2, v, 9));
        for (int form : new int[] {-1, 3, MIN, MAX}) refused("form " + form, state, x -> x.lay(0, form, 0, 9), BAD);
        for (int form = 0; form <= 2; form++) {
            for (int as = 0; as <= 2; as++) {
                int of = form;
                int treated = as;
                Supplier<CommitIndex> one = () -> laid(chain(1), 0, of, 4);
                if (of == treated) due("form " + of, one.get().lay(0, treated, 0, 9), 1);
                else refused("form " + of + " as " + treated, one, x -> x.lay(0, treated, 0, 9), CAST);
                refused("lost, as " + as, CommitIndex::new, x -> x.lay(0, treated, 0, 9), NULL_);
            }
        }
        refused("no items", () -> laid(chain(1), 0, 2), x -> x.lay(0, 2, 0, 9), INDEX);
        due("the 60th item", laid(chain(1), 0, 2, new int[60]).lay(0, 2, 59, 9), 1);
        refused("a 61st item", () -> laid(chain(1), 0, 2, new int[60]), x -> x.lay(0, 2, 60, 9), INDEX);
        CommitIndex x = state.get();
        due("one item", x.lay(0, 2, 1, 9), 1);
        int[] items = {0, 9, 5, 7};
        for (int i = 0; i < 4; i++) due("item " + i, x.get(0, 2, i), items[i]);
    }

    private void lowestBits() {
        sentence(26, "Item i, treated as of a FORM, becomes v (the lowest bits that it has): 1.");
        int[][] bytes = {{127, 127}, {128, -128}, {255, -1}, {256, 0}, {-128, -128}, {-129, 127}, {MAX, -1}, {MIN, 0}};
        int[][] shorts = {{32767, 32767}, {32768, -32768}, {65535, -1}, {65536, 0}, {-32768, -32768}, {-32769, 32767},
            {128, 128}, {MAX, -1}, {MIN, 0}};
        int[][] ints = {{MAX, MAX}, {MIN, MIN}, {65536, 65536}, {-32769, -32769}, {0, 0}, {-1, -1}};
        int[][][] forms = {bytes, shorts, ints};
        for (int form = 0; form <= 2; form++) {
            for (int[] row : forms[form]) {
                CommitIndex x = laid(new CommitIndex(), 1, form, 5, 5);
                due("lay", x.lay(1, form, 1, row[0]), 1);
                due("form " + form + ", " + row[0], x.get(1, form, 1), row[1]);
                due("the other", x.get(1, form, 0), 5);
            }
        }
    }

    private void get() {
        sentence(27, "Item i of it. BAD: the least int; so are NULL, CAST, INDEX (count() 8 tells).");
        Supplier<CommitIndex> state = () -> fourSheets(chain(2));
        for (int s : new int[] {-1, 4, MIN, MAX}) refused("s " + s, state, x -> x.get(s, 2, 0), MIN, 0);
        for (int form : new int[] {-1, 3, MIN, MAX}) refused("form " + form, state, x -> x.get(0, form, 0), MIN, 0);
        for (int i : new int[] {-1, 4, MIN, MAX}) refused("i " + i, state, x -> x.get(0, 2, i), MIN, 2);
        refused("as bytes", state, x -> x.get(0, 0, 0), MIN, 3);
        refused("as shorts", state, x -> x.get(0, 1, 0), MIN, 3);
        for (int form = 0; form <= 2; form++) {
            int as = form;
            refused("lost, as " + form, CommitIndex::new, x -> x.get(3, as, 0), MIN, 1);
        }
        refused("no items", () -> laid(chain(1), 0, 1), x -> x.get(0, 1, 0), MIN, 2);
        CommitIndex x = state.get();
        due("the first", x.get(3, 2, 0), 0);
        due("the last", x.get(3, 2, 3), 10);
        x = laid(new CommitIndex(), 0, 2, MIN);
        due("an item can be the least int", x.get(0, 2, 0), MIN);
        due("that is no finding", x.count(8), 0);
        x = laid(new CommitIndex(), 0, 0, new int[60]);
        x.lay(0, 0, 59, -7);
        due("the 60th", x.get(0, 0, 59), -7);
    }

    private void copyIndexes() {
        sentence(28, "BAD: the SHEETS; NULL: s, t; STORE; INDEX: below 0, not so many.");
        Supplier<CommitIndex> state = () -> laid(laid(fourSheets(chain(2)), 1, 2, 1, 2, 3), 2, 1, 1, 2, 3);
        range("s", () -> fourSheets(chain(2)), 0, 3, BAD, (x, v) -> x.copy(v, 0, 0, 0, 1));
        range("t", () -> fourSheets(chain(2)), 0, 3, BAD, (x, v) -> x.copy(0, 0, v, 0, 1));
        range("i, of one", state, 0, 3, INDEX, (x, v) -> x.copy(0, v, 1, 0, 1));
        range("i, of two", state, 0, 2, INDEX, (x, v) -> x.copy(0, v, 1, 0, 2));
        range("i, of none", state, 0, 4, INDEX, (x, v) -> x.copy(0, v, 1, 0, 0));
        range("j, of one", state, 0, 2, INDEX, (x, v) -> x.copy(0, 0, 1, v, 1));
        range("j, of two", state, 0, 1, INDEX, (x, v) -> x.copy(0, 0, 1, v, 2));
        range("j, of none", state, 0, 3, INDEX, (x, v) -> x.copy(0, 0, 1, v, 0));
        range("n, from here", state, 0, 2, INDEX, (x, v) -> x.copy(0, 2, 3, 0, v));
        range("n, to there", state, 0, 2, INDEX, (x, v) -> x.copy(0, 0, 1, 1, v));
        refused("i and n wrap", state, x -> x.copy(0, MAX, 1, 0, MAX), INDEX);
        refused("i and n wrap to 0", state, x -> x.copy(0, MAX, 0, 0, MIN + 1), INDEX);
        refused("j and n wrap", state, x -> x.copy(0, 0, 1, MAX, 1), INDEX);
        refused("unlike forms", state, x -> x.copy(0, 0, 2, 0, 1), STORE);
        refused("unlike forms, turned", state, x -> x.copy(2, 0, 0, 0, 1), STORE);
        refused("unlike forms, of none", state, x -> x.copy(2, 0, 0, 0, 0), STORE);
        refused("s is lost", () -> laid(chain(2), 0, 2, 1), x -> x.copy(1, 0, 0, 0, 0), NULL_);
        refused("t is lost", () -> laid(chain(2), 0, 2, 1), x -> x.copy(0, 0, 1, 0, 0), NULL_);
        refused("both are lost", () -> chain(2), x -> x.copy(0, 0, 1, 0, 0), NULL_);
        refused("s is t, and lost", () -> chain(2), x -> x.copy(1, 0, 1, 0, 0), NULL_);
    }

    private void copyAsTheyWere() {
        sentence(28, "n items of SHEET s, from i on, come to SHEET t (perhaps s, as they were), from j on: 1.");
        copied("upward by one", 0, 1, 4, 1, 1, 2, 3, 4);
        copied("upward by two", 0, 2, 3, 1, 2, 1, 2, 3);
        copied("downward by one", 1, 0, 4, 2, 3, 4, 5, 5);
        copied("downward by two", 2, 0, 3, 3, 4, 5, 4, 5);
        copied("in its place", 0, 0, 5, 1, 2, 3, 4, 5);
        copied("none", 0, 5, 0, 1, 2, 3, 4, 5);
        for (int form = 0; form <= 2; form++) {
            CommitIndex x = laid(laid(new CommitIndex(), 0, form, -1, -2, -3), 1, form, 7, 8, 9);
            due("form " + form, x.copy(0, 1, 1, 0, 2), 1);
            int[] items = {-2, -3, 9};
            for (int i = 0; i < 3; i++) due("form " + form + ", " + i, x.get(1, form, i), items[i]);
            for (int i = 0; i < 3; i++) due("s is as it was, " + i, x.get(0, form, i), -1 - i);
        }
        CommitIndex x = new CommitIndex();
        x.sheet(0, 2, 60);
        x.lay(0, 2, 59, 6);
        x.sheet(1, 2, 60);
        due("all sixty", x.copy(0, 0, 1, 0, 60), 1);
        due("the last", x.get(1, 2, 59), 6);
        due("one more than sixty", x.copy(0, 0, 1, 0, 61), INDEX);
    }

    private void copied(String what, int i, int j, int n, int... want) {
        CommitIndex x = laid(new CommitIndex(), 0, 2, 1, 2, 3, 4, 5);
        due(what, x.copy(0, i, 0, j, n), 1);
        for (int k = 0; k < want.length; k++) due(what + ", " + k, x.get(0, 2, k), want[k]);
    }

    private void write() {
        sentence(29, "come to a SHEET from item 0 on, as many as there are items, and COMMITS: how many."
            + " BAD: COMMITS, SHEET; NULL.");
        Supplier<CommitIndex> state = () -> fourSheets(sealed(chain(3)));
        range("a", state, 0, 2, BAD, (x, v) -> x.write(v, 2, 0));
        range("b", state, 0, 2, BAD, (x, v) -> x.write(0, v, 0));
        range("s", state, 0, 3, BAD, (x, v) -> x.write(0, 2, v));
        refused("lost", () -> chain(3), x -> x.write(0, 2, 0), NULL_);
        refused("no commits", () -> laid(new CommitIndex(), 0, 2, 1), x -> x.write(0, 0, 0), BAD);
        written("more items than commits", state, 0, 2, 3, 2, 1, 0, 7);
        written("one commit", state, 2, 2, 1, 2, NONE, 5, 7);
        written("no commits: b is less", state, 2, 1, 0, 0, NONE, 5, 7);
        written("as many of both", () -> laid(sealed(chain(3)), 0, 0, 9, 9, 9), 0, 2, 3, 2, 1, 0);
        written("one item less", () -> laid(sealed(chain(3)), 0, 1, 9, 9), 0, 2, 2, 2, 1);
        written("no items", () -> laid(sealed(chain(3)), 0, 1), 0, 2, 0);
        CommitIndex x = laid(sealed(chain(40)), 0, 0, new int[60]);
        due("all forty", x.write(0, 39, 0), 40);
        for (int i = 0; i < 60; i++) due("item " + i, x.get(0, 0, i), Math.max(0, 39 - i));
    }

    private void written(String what, Supplier<CommitIndex> state, int a, int b, int n, int... want) {
        CommitIndex x = state.get();
        due(what, x.write(a, b, 0), n);
        for (int form = 0; form <= 2; form++) {
            if (x.lay(0, form, -1, 0) != INDEX) continue;
            for (int i = 0; i < want.length; i++) due(what + ", " + i, x.get(0, form, i), want[i]);
        }
        due(what + ", items", x.lose(0), want.length);
    }

    private void count() {
        sentence(30, "0 COMMITS, 1 how many are SEALED, 2 LAYERS, 3 how many THE TAKER HAS, 4 how many are WANTED,"
            + " 5 ROUNDS, 6 how many are TOLD, 7 how many are SENT");
        range("what", () -> fourSheets(chain(2)), 0, 8, BAD, CommitIndex::count);
        CommitIndex x = sealed(hadAll(39));
        grow(x, 38, NONE);
        x.want(39);
        int[] all = {40, 39, 1, 39, 1, 1, 1, 1, 0};
        for (int what = 0; what <= 8; what++) due("nearly full, " + what, x.count(what), all[what]);
        x.clear(1);
        x.clear(0);
        x.has(39);
        int[] none = {40, 39, 1, 40, 0, 40, 40, 0, 0};
        for (int what = 0; what <= 8; what++) due("none is wanted, " + what, x.count(what), none[what]);
        x.clear(0);
        x.want(39);
        due("all are sent", x.count(7), 40);
    }

    private void latestFinding() {
        sentence(30, "8 the number of the latest FINDING (0 before any). BAD.");
        CommitIndex x = laid(laid(sealed(chain(2)), 0, 2, 1), 1, 1, 1);
        due("before any", x.count(8), 0);
        x.add(9, NONE, 0);
        x.back();
        x.seal();
        x.sheet(0, 3, -1);
        x.get(4, 0, 0);
        due("BAD and NOT are none", x.count(8), 0);
        x.sheet(2, 0, -1);
        due("SIZE", x.count(8), 5);
        x.copy(0, 0, 1, 0, 1);
        due("STORE", x.count(8), 4);
        x.get(0, 1, 0);
        due("CAST", x.count(8), 3);
        x.lay(0, 2, 1, 0);
        due("INDEX", x.count(8), 2);
        x.read(3);
        due("NULL", x.count(8), 1);
        x.count(9);
        x.clear(5);
        due("stays behind a refusal", x.count(8), 1);
        staysBehindGoodCalls();
    }

    private void staysBehindGoodCalls() {
        List<ToLongFunction<CommitIndex>> calls = List.of(
            x -> x.add(1, 0, 3), CommitIndex::back, x -> x.read(0), CommitIndex::seal, x -> x.set(0, 2),
            x -> x.has(1), x -> x.want(1), x -> x.clear(0), x -> x.sheet(2, 1, 4), x -> x.lose(0),
            x -> x.lay(0, 2, 1, 5), x -> x.get(0, 2, 1), x -> x.copy(0, 0, 0, 1, 2), x -> x.write(0, 1, 0));
        for (int i = 0; i < calls.size(); i++) {
            CommitIndex x = laid(chain(3), 0, 2, 0, NONE, 1);
            x.sheet(1, 0, -1);
            checks.holds("call " + i + " is not refused", calls.get(i).applyAsLong(x) >= NONE);
            due("stays behind call " + i, x.count(8), 5);
        }
    }

    private void digest() {
        sentence(31, "as longs that wrap");
        digestOf("no commits", CommitIndex::new);
        digestOf("one", () -> chain(1));
        digestOf("forty, none sealed", () -> chain(40));
        digestOf("forty without parents", () -> sealed(hadRoots()));
        digestOf("forty told", () -> wanting(sealed(hadAll(40)), 0));
        digestOf("forty sent", () -> wanting(with(sealed(chain(40)), 0, 1), 39));
        digestOf("more is looked at plainly",
            () -> sealed(grown(NONE, NONE, NONE, NONE, 0, NONE, 1, NONE, 3, 1, 2, NONE, 5, 0)));
        digestOf("four layers, haste", () -> {
            CommitIndex x = new CommitIndex();
            for (int size : new int[] {15, 7, 3, 1}) {
                for (int n = 0; n < size; n++) x.add(x.count(0) - 1, NONE, n);
                x.seal();
            }
            x.has(20);
            x.want(25);
            return with(with(x, 2, 1), 0, 10);
        });
        Supplier<CommitIndex> state = () -> wanting(hadAll(3), 1);
        CommitIndex x = state.get();
        x.lose(0);
        x.sheet(1, 2, 3);
        due("neither findings nor sheets are in it", x.digest(), state.get().digest());
        due("again", x.digest(), state.get().digest());
    }

    private static CommitIndex hadRoots() {
        CommitIndex x = roots(40);
        for (int c = 0; c < 40; c++) x.has(c);
        return x;
    }

    private void digestOf(String what, Supplier<CommitIndex> state) {
        due(what, state.get().digest(), Observed.digestByCalls(state));
    }
}
