/** For each promise rows worked out by hand: ordinary calls, the edges the document names, wrong calls. */
public final class PromisesTest {
    private static final int NONE = -1;
    private static final int BAD = -2;
    private static final int NOT = -3;
    private static final int FULL = -4;
    private static final int NULL_ = -11;
    private static final int INDEX = -12;
    private static final int CAST = -13;
    private static final int STORE = -14;
    private static final int SIZE = -15;
    private static final int MIN = Integer.MIN_VALUE;
    private static final int MAX = Integer.MAX_VALUE;
    private static final long BAD_LONG = Long.MIN_VALUE + 2;

    private final Checks checks = new Checks();
    private CommitIndex x;

    public static void main(String[] args) {
        PromisesTest test = new PromisesTest();
        test.commits();
        test.whatIsReached();
        test.keptSets();
        test.giverAndTaker();
        test.sheets();
        test.checks.end();
    }

    private void commits() {
        newObject();
        add();
        back();
        read();
        seal();
        layer();
        set();
        commit();
    }

    private void whatIsReached() {
        reach();
        look();
        basesAndPaints();
        waysAndFar();
    }

    private void keptSets() {
        kept();
        walk();
    }

    private void giverAndTaker() {
        has();
        want();
        clear();
        sets();
        rounds();
        roundOfCommonOnes();
        roundsOfOneTaker();
        haste();
        told();
        things();
    }

    private void sheets() {
        sheet();
        lose();
        lay();
        get();
        copy();
        write();
        count();
        digest();
        refusalsChangeNothing();
    }

    private void begin(String part) {
        checks.part(part);
        x = new CommitIndex();
    }

    private void due(String what, long got, long want) {
        checks.due(what, got, want);
    }

    /** Commits by their parents, two numbers each; the things of commit c are 1 << c. */
    private void grow(int... parents) {
        for (int i = 0; i + 1 < parents.length; i += 2) {
            int c = x.count(0);
            due("add for commit " + c, x.add(parents[i], parents[i + 1], 1 << c % 20), c + 1);
        }
    }

    private void growChain(int n) {
        for (int c = 0; c < n; c++) grow(c - 1, NONE);
    }

    private void lay(int s, int form, int... items) {
        due("sheet", x.sheet(s, form, items.length), items.length);
        for (int i = 0; i < items.length; i++) due("lay", x.lay(s, form, i, items[i]), 1);
    }

    private void newObject() {
        begin("promise 1");
        for (int what = 0; what <= 8; what++) due("count " + what, x.count(what), 0);
        due("has", x.sets(0), 0);
        due("wanted", x.sets(1), 0);
        due("every", x.set(0, 4), 4);
        due("per", x.set(1, 2), 2);
        due("haste", x.set(2, 0), 0);
        for (int s = 0; s < 4; s++) due("lose", x.lose(s), NULL_);
    }

    private void add() {
        begin("promise 2");
        due("no parents", x.add(NONE, NONE, 0), 1);
        due("q alone", x.add(NONE, 0, 0), BAD);
        due("itself", x.add(1, NONE, 0), BAD);
        due("q is itself", x.add(0, 1, 0), BAD);
        due("p below", x.add(-2, NONE, 0), BAD);
        due("q below", x.add(0, -2, 0), BAD);
        due("p none, q below", x.add(NONE, -2, 0), BAD);
        due("like ones", x.add(0, 0, 0), BAD);
        due("things below", x.add(0, NONE, -1), BAD);
        due("things above", x.add(0, NONE, 1048576), BAD);
        due("extremes", x.add(MIN, MAX, MIN), BAD);
        due("all things", x.add(0, NONE, 1048575), 2);
        due("two parents", x.add(0, 1, 5), 3);
        due("greater first", x.add(2, 0, 5), 4);
        for (int n = 5; n <= 40; n++) due("add " + n, x.add(n - 2, NONE, 0), n);
        due("full", x.add(39, 38, 0), FULL);
        due("full, none", x.add(NONE, NONE, 0), FULL);
        due("bad ahead of full", x.add(40, NONE, 0), BAD);
        due("bad things ahead of full", x.add(0, NONE, -1), BAD);
        due("still 40", x.count(0), 40);
    }

    private void back() {
        begin("promise 3");
        due("none", x.back(), NOT);
        growChain(3);
        due("seal", x.seal(), 1);
        due("sealed", x.back(), NOT);
        grow(2, NONE, 2, 0);
        due("has 4", x.has(4), 4);
        due("want 4", x.want(4), 1);
        due("want 1", x.want(1), 2);
        due("back", x.back(), 4);
        due("had: what it reached stays", x.sets(0), 0b111);
        due("wanted", x.sets(1), 0b10);
        due("no such commit", x.commit(4, 0), BAD);
        due("it is no parent of any more", x.commit(0, 5), 1);
        due("back", x.back(), 3);
        due("now sealed", x.back(), NOT);
        grow(0, NONE);
        due("its number is used again", x.commit(3, 2), 2);
    }

    private void read() {
        begin("promise 4");
        due("bad", x.read(-1), BAD);
        due("bad", x.read(4), BAD);
        due("lost", x.read(3), NULL_);
        due("finding", x.count(8), 1);
        lay(0, 0, -1, -1, 3, 0, -1, 4, 0, 1);
        due("two are whole", x.read(0), 2);
        due("things", x.commit(1, 4), 4);
        lay(1, 2, 1, 0, 1048575, 5, -1, 0, 0, -1, 0);
        due("till one may not be", x.read(1), 1);
        due("parents", x.commit(2, 0), 1);
        due("parents", x.commit(2, 1), 0);
        due("things", x.commit(2, 4), 1048575);
        due("no items", x.sheet(2, 1, 0), 0);
        due("of none", x.read(2), 0);
        lay(2, 1, 0, 0, 0);
        due("first is bad", x.read(2), 0);
        lay(2, 1, 2, 1, 9);
        due("just one is whole", x.read(2), 1);
        due("its things", x.commit(3, 4), 9);
        for (int n = 5; n <= 39; n++) due("add", x.add(0, NONE, 0), n);
        due("room for one", x.read(0), 1);
        due("full", x.read(0), 0);
        due("forty", x.count(0), 40);
    }

    private void seal() {
        begin("promise 5");
        due("none", x.seal(), NOT);
        growChain(9);
        due("first", x.seal(), 1);
        due("nothing new", x.seal(), NOT);
        due("sealed", x.count(1), 9);
        grow(8, NONE, 8, NONE, 8, NONE, 8, NONE);
        due("9 is more than twice 4", x.seal(), 2);
        grow(0, NONE);
        due("4 is more than twice 1", x.seal(), 3);
        grow(0, NONE);
        due("1, then 4 and 9, are no more than twice", x.seal(), 1);
        due("all in one", x.layer(0), 15);
        begin("promise 5, just twice");
        growChain(4);
        due("four", x.seal(), 1);
        grow(0, NONE, 0, NONE);
        due("4 is twice 2", x.seal(), 1);
        due("six", x.layer(0), 6);
    }

    private void layer() {
        begin("promise 6");
        due("below", x.layer(-1), BAD);
        due("above", x.layer(40), BAD);
        due("least", x.layer(MIN), BAD);
        due("none", x.layer(0), NONE);
        due("none", x.layer(39), NONE);
        growChain(7);
        due("not sealed is in none", x.layer(0), NONE);
        x.seal();
        grow(0, NONE, 0, NONE, 0, NONE);
        due("7 is more than twice 3", x.seal(), 2);
        due("first", x.layer(0), 7);
        due("second", x.layer(1), 3);
        due("third", x.layer(2), NONE);
    }

    private void set() {
        begin("promise 7");
        due("every", x.set(0, 10), 4);
        due("every", x.set(0, 1), 10);
        due("every below", x.set(0, 0), BAD);
        due("every above", x.set(0, 11), BAD);
        due("every is as it was", x.set(0, 4), 1);
        due("per", x.set(1, 8), 2);
        due("per", x.set(1, 1), 8);
        due("per below", x.set(1, 0), BAD);
        due("per above", x.set(1, 9), BAD);
        due("per is as it was", x.set(1, 2), 1);
        due("haste", x.set(2, 1), 0);
        due("haste below", x.set(2, -1), BAD);
        due("haste above", x.set(2, 2), BAD);
        due("haste is as it was", x.set(2, 0), 1);
        due("no such", x.set(3, 1), BAD);
        due("no such", x.set(-1, 1), BAD);
    }

    private void commit() {
        begin("promise 8");
        grow(NONE, NONE, 0, NONE, 1, NONE, 0, 2);
        due("p", x.commit(3, 0), 0);
        due("q", x.commit(3, 1), 2);
        due("p of none", x.commit(0, 0), NONE);
        due("q of none", x.commit(1, 1), NONE);
        due("rank of none", x.commit(0, 2), 1);
        due("rank by the greatest", x.commit(3, 2), 4);
        due("not sealed", x.commit(0, 3), 99);
        due("things", x.commit(2, 4), 4);
        due("children", x.commit(0, 5), 2);
        due("no children", x.commit(3, 5), 0);
        x.seal();
        grow(3, NONE);
        due("sealed", x.commit(3, 3), 4);
        due("not sealed", x.commit(4, 3), 99);
        due("its rank", x.commit(4, 2), 5);
        due("no such commit", x.commit(5, 0), BAD);
        due("no such commit", x.commit(-1, 0), BAD);
        due("no such what", x.commit(0, 6), BAD);
        due("no such what", x.commit(0, -1), BAD);
    }

    private void reach() {
        begin("promise 9");
        due("none", x.reach(0), BAD_LONG);
        grow(NONE, NONE, NONE, NONE, 0, NONE, 2, 1, 1, NONE);
        due("itself", x.reach(0), 0b1);
        due("parent", x.reach(2), 0b101);
        due("both parents", x.reach(3), 0b1111);
        due("not its like", x.reach(4), 0b10010);
        due("below", x.reach(-1), BAD_LONG);
        due("above", x.reach(5), BAD_LONG);
        begin("promise 9, forty");
        growChain(40);
        due("all", x.reach(39), (1L << 40) - 1);
        due("below", x.reach(MIN), BAD_LONG);
    }

    /** 3 is reached with 2 and 0 behind it; 1 has a greater rank than 2, though a lesser number. */
    private void growFork() {
        grow(NONE, NONE, 0, NONE, NONE, NONE, 2, 0, 3, 1, 3, NONE);
    }

    private void look() {
        begin("promise 10");
        growFork();
        due("not sealed: all have 99", x.look(1, 5, 1), 4);
        due("not reached", x.look(1, 5, 0), 0);
        due("by number: 4, 3, 2, 1", x.look(1, 4, 1), 4);
        x.seal();
        due("sealed: 5, 3", x.look(1, 5, 1), 2);
        due("plainly: 5, 3, 2, 0", x.look(1, 5, 2), 4);
        due("by rank: 4, 3, 1", x.look(1, 4, 1), 3);
        due("plainly: 4, 3, 1", x.look(1, 4, 2), 3);
        due("reached", x.look(1, 4, 0), 1);
        due("like ranks: 5, 3, 2", x.look(2, 5, 1), 3);
        due("itself", x.look(4, 4, 1), 1);
        due("itself", x.look(4, 4, 0), 1);
        due("lesser generation", x.look(4, 3, 1), 0);
        due("plainly: 3, 2, 0", x.look(4, 3, 2), 3);
        due("like generation", x.look(4, 5, 1), 1);
        grow(0, NONE, 6, 4);
        due("99 first: 7, 6, 4, 3", x.look(3, 7, 1), 4);
        due("not sealed from sealed", x.look(6, 4, 1), 0);
        due("both not sealed: 7, 6", x.look(6, 7, 1), 2);
        due("no such a", x.look(8, 0, 0), BAD);
        due("no such b", x.look(0, -1, 0), BAD);
        due("no such what", x.look(0, 0, 3), BAD);
        due("no such what", x.look(0, 0, -1), BAD);
    }

    private void basesAndPaints() {
        begin("promises 11 and 12");
        due("none", x.bases(0, 0), BAD_LONG);
        due("none", x.paints(0, 0), BAD);
        growFork();
        due("base", x.bases(4, 5), 0b1000);
        due("by number: 5, 4, 3, 2 (stale), 1", x.paints(4, 5), 5);
        x.seal();
        due("base", x.bases(4, 5), 0b1000);
        due("by rank: 5, 4, 3, 1", x.paints(4, 5), 4);
        due("itself", x.bases(3, 3), 0b1000);
        due("itself", x.paints(3, 3), 1);
        due("one reaches the other", x.bases(5, 0), 0b1);
        due("5, 3, 2, 0", x.paints(5, 0), 4);
        due("nothing in common", x.bases(1, 2), 0);
        due("1, 2, 0", x.paints(1, 2), 3);
        begin("promises 11 and 12, crossed");
        grow(NONE, NONE, 0, NONE, 0, NONE, 1, 2, 2, 1);
        due("two bases", x.bases(3, 4), 0b110);
        due("4, 3, 2, 1", x.paints(3, 4), 4);
        due("two bases, turned", x.bases(4, 3), 0b110);
        due("no such", x.bases(5, 0), BAD_LONG);
        due("no such", x.bases(0, -1), BAD_LONG);
        due("no such", x.paints(5, 0), BAD);
        due("no such", x.paints(0, -1), BAD);
        due("paints on its own: 1", x.paints(1, 1), 1);
        begin("promise 12, two chains of twenty");
        grow(NONE, NONE, NONE, NONE);
        for (int c = 2; c < 40; c++) grow(c - 2, NONE);
        due("all are looked at", x.paints(39, 38), 40);
        due("nothing in common", x.bases(39, 38), 0);
    }

    private void waysAndFar() {
        begin("promises 13 and 14");
        due("none", x.ways(0, 0), BAD_LONG);
        due("none", x.far(0, 0), BAD);
        grow(NONE, NONE, 0, NONE, 1, 0, 2, 1, 3, 2);
        due("one", x.ways(2, 2), 1);
        due("one", x.far(2, 2), 0);
        due("1 to 0", x.ways(0, 1), 1);
        due("2 to 0", x.ways(0, 2), 2);
        due("3 to 0", x.ways(0, 3), 3);
        due("4 to 0", x.ways(0, 4), 5);
        due("4 to 0", x.far(0, 4), 2);
        due("3 to 0", x.far(0, 3), 2);
        due("4 to 1", x.ways(1, 4), 3);
        due("upward", x.ways(4, 0), 0);
        due("upward", x.far(4, 0), NONE);
        for (int c = 5; c < 40; c++) grow(c - 1, c - 2);
        due("the most ways there can be", x.ways(0, 39), 102334155L);
        due("the shortest", x.far(0, 39), 20);
        due("from another one", x.far(0, 20), 10);
        due("from another one", x.ways(3, 5), 2);
        due("no such", x.ways(40, 0), BAD_LONG);
        due("no such", x.ways(0, -1), BAD_LONG);
        due("no such", x.far(40, 0), BAD);
        due("no such", x.far(0, -1), BAD);
    }

    private void kept() {
        begin("promise 15");
        due("none", x.kept(0, 0), BAD);
        grow(NONE, NONE, NONE, NONE, 0, NONE, 1, NONE, 2, NONE, 3, NONE, 4, NONE, 6, 5);
        due("3 has no root", x.kept(3, 0), NONE);
        due("its share is all", x.kept(3, 1), 2);
        due("no roots", x.kept(3, 2), 0);
        due("root of 7", x.kept(7, 0), 3);
        due("8 less 2", x.kept(7, 1), 6);
        due("one root", x.kept(7, 2), 1);
        due("not kept", x.kept(6, 0), NOT);
        x.set(0, 2);
        due("the greatest that it reaches", x.kept(7, 0), 5);
        due("8 less 3", x.kept(7, 1), 5);
        due("5, 3, 1", x.kept(7, 2), 3);
        x.set(0, 1);
        due("not just the one ahead", x.kept(6, 0), 4);
        due("4, 2, 0", x.kept(6, 2), 3);
        due("share", x.kept(6, 1), 1);
        x.set(0, 10);
        due("not kept", x.kept(7, 2), NOT);
        due("bad ahead of not", x.kept(0, 3), BAD);
        due("bad", x.kept(0, -1), BAD);
        due("bad", x.kept(8, 0), BAD);
        due("bad", x.kept(-1, 0), BAD);
    }

    private void walk() {
        begin("promise 16");
        due("none", x.walk(0, 0), BAD);
        grow(NONE, NONE, 0, NONE, 1, NONE, 2, NONE, 2, NONE, 4, 3, 5, NONE, NONE, NONE, 6, 7);
        due("8, 6, 5, 4", x.walk(8, 0), 4);
        due("7 and 3", x.walk(8, 1), 2);
        due("all", x.walk(8, 2), 9);
        due("4, 2, 1, 0", x.walk(4, 0), 4);
        due("none used", x.walk(4, 1), 0);
        due("found", x.walk(4, 2), 4);
        due("kept: none looked at", x.walk(3, 0), 0);
        due("kept: itself", x.walk(3, 1), 1);
        due("kept: found", x.walk(3, 2), 4);
        x.set(0, 3);
        due("8 is kept", x.walk(8, 1), 1);
        due("7", x.walk(7, 0), 1);
        due("6, 5 is kept", x.walk(6, 0), 1);
        due("used", x.walk(6, 1), 1);
        due("bad", x.walk(9, 0), BAD);
        due("bad", x.walk(-1, 0), BAD);
        due("bad", x.walk(0, 3), BAD);
        due("bad", x.walk(0, -1), BAD);
    }

    private void has() {
        begin("promise 17");
        due("none", x.has(0), BAD);
        grow(NONE, NONE, 0, NONE, NONE, NONE, 1, NONE);
        due("and all that it reaches", x.has(1), 2);
        due("again", x.has(1), 2);
        due("another", x.has(2), 3);
        due("bits", x.sets(0), 0b111);
        due("counted", x.count(3), 3);
        due("bad", x.has(4), BAD);
        due("bad", x.has(-1), BAD);
    }

    private void want() {
        begin("promise 18");
        due("none", x.want(0), BAD);
        growChain(3);
        due("one", x.want(2), 1);
        due("already", x.want(2), NOT);
        due("reached is not wanted", x.want(0), 2);
        due("bits", x.sets(1), 0b101);
        due("counted", x.count(4), 2);
        due("bad", x.want(3), BAD);
        due("bad", x.want(-1), BAD);
    }

    private void clear() {
        begin("promise 19");
        growChain(3);
        x.has(2);
        x.want(1);
        due("bad", x.clear(2), BAD);
        due("bad", x.clear(-1), BAD);
        due("had", x.clear(0), 3);
        due("none is", x.sets(0), 0);
        due("wanted is as it was", x.sets(1), 0b10);
        due("again", x.clear(0), 0);
        x.has(0);
        due("wanted", x.clear(1), 1);
        due("none is", x.sets(1), 0);
        due("had is as it was", x.sets(0), 0b1);
        due("wanted again", x.want(1), 1);
    }

    private void sets() {
        begin("promise 20");
        grow(NONE, NONE, 0, NONE, 1, NONE, 1, NONE, 2, NONE);
        x.has(3);
        x.want(4);
        due("has", x.sets(0), 0b1011);
        due("wanted", x.sets(1), 0b10000);
        due("common", x.sets(2), 0b11);
        due("sent", x.sets(3), 0b10100);
        due("vain", x.sets(4), 0);
        x.clear(0);
        due("nothing common", x.sets(2), 0);
        due("all is sent", x.sets(3), 0b10111);
        x.clear(1);
        due("nothing is sent", x.sets(3), 0);
        due("bad", x.sets(5), BAD_LONG);
        due("bad", x.sets(-1), BAD_LONG);
    }

    private void rounds() {
        begin("promise 21");
        due("none had", x.rounds(), 0);
        growChain(5);
        x.has(3);
        due("none wanted: 3, 2, 1, 0 one by one", x.rounds(), 4);
        x.want(1);
        due("3, 2, 1", x.rounds(), 3);
        x.want(4);
        due("3", x.rounds(), 1);
        begin("promise 21, per");
        grow(NONE, NONE, NONE, NONE, NONE, NONE, NONE, NONE, NONE, NONE);
        for (int c = 0; c < 5; c++) x.has(c);
        due("2, 2, 1", x.rounds(), 3);
        x.set(1, 1);
        due("one by one", x.rounds(), 5);
        x.set(1, 5);
        due("all at once", x.rounds(), 1);
        begin("promise 21, forty");
        growChain(40);
        x.has(39);
        due("the most rounds there can be", x.rounds(), 40);
        due("the last one told", x.told(39, 0), 0);
        due("its round", x.told(39, 2), 39);
    }

    /**
     * 2 and 1 are told; 0 comes on the pile for 2, and is common for 1 ahead of the next round. It is
     * taken off as nothing then, and as none is told with it, that is no round.
     */
    private void roundOfCommonOnes() {
        begin("promise 21, common meanwhile");
        grow(NONE, NONE, 0, NONE, 0, NONE);
        x.has(1);
        x.has(2);
        x.want(1);
        due("told", x.count(6), 2);
        due("first", x.told(0, 0), 2);
        due("second", x.told(1, 0), 1);
        due("not told", x.told(2, 0), NONE);
        due("common", x.sets(2), 0b11);
        due("rounds", x.rounds(), 1);
        due("rounds, counted", x.count(5), 1);
        due("digest", x.digest(), digestByCalls());
        x.set(2, 1);
        due("in haste", x.rounds(), 1);
        x.want(0);
        due("0 is wanted too", x.rounds(), 1);
        begin("promise 21, common ones do not count for per");
        grow(NONE, NONE, 0, NONE, 0, NONE, NONE, NONE);
        x.has(1);
        x.has(2);
        x.has(3);
        x.want(1);
        due("2 and 1, then 3", x.told(2, 0), 3);
        due("in round 1", x.told(2, 2), 1);
        x.set(1, 1);
        due("one by one: 2, 1, 3", x.rounds(), 3);
        begin("promise 21, a common one ahead of one that is told");
        grow(NONE, NONE, 0, NONE, 1, NONE, 1, NONE, NONE, NONE);
        x.has(2);
        x.has(3);
        x.has(4);
        x.want(2);
        // 1 comes on the pile for 3, is common for 2, and has a greater rank than 4.
        due("3 and 2, then 4", x.rounds(), 2);
        due("told", x.count(6), 3);
        due("4", x.told(2, 0), 4);
        due("in round 1", x.told(2, 2), 1);
        x.set(1, 1);
        due("one by one", x.rounds(), 3);
        due("told", x.count(6), 3);
        due("in round 2", x.told(2, 2), 2);
    }

    /** Four rounds down from one that the taker has; behind them 0 is left on the pile, common for 1. */
    private void roundsOfOneTaker() {
        begin("promise 21, 0 is left on the pile");
        grow(NONE, NONE, 0, NONE, 0, 1, 1, 0, 1, 2, 4, 3, 5, NONE);
        x.has(6);
        x.want(1);
        int[][] rows = {{6, 0, 0}, {5, 0, 1}, {4, 0, 2}, {3, 0, 2}, {2, 0, 3}, {1, 1, 3}};
        for (int i = 0; i < rows.length; i++) {
            for (int what = 0; what < 3; what++) due("told " + i + ", " + what, x.told(i, what), rows[i][what]);
        }
        due("no more", x.told(rows.length, 0), NONE);
        due("rounds", x.rounds(), 4);
        due("rounds, counted", x.count(5), 4);
        due("digest", x.digest(), digestByCalls());
    }

    private void haste() {
        begin("promises 20 and 21, haste");
        grow(NONE, NONE, NONE, NONE, 0, 1, NONE, NONE);
        x.has(0);
        x.has(1);
        x.want(2);
        x.set(1, 1);
        due("slow", x.rounds(), 2);
        due("nothing in vain", x.sets(4), 0);
        x.set(2, 1);
        due("hasty", x.rounds(), 1);
        due("common", x.sets(2), 0b10);
        due("sent", x.sets(3), 0b101);
        due("vain", x.sets(4), 0b1);
        due("things: common ones do not go", x.things(), 0b101);
        x.want(3);
        due("3 reaches nothing common", x.rounds(), 2);
        due("nothing in vain", x.sets(4), 0);
        x.clear(1);
        due("none is wanted, so each of them reaches", x.rounds(), 1);
        x.clear(0);
        due("nothing to tell", x.rounds(), 0);
    }

    private void told() {
        begin("promise 22");
        due("none", x.told(0, 0), NONE);
        grow(NONE, NONE, 0, NONE, 1, NONE, 0, NONE, NONE, NONE, 2, NONE);
        x.seal();
        x.has(2);
        x.has(3);
        x.has(4);
        x.want(5);
        x.want(4);
        int[][] rows = {{2, 1, 0}, {3, 0, 0}, {4, 1, 1}};
        for (int i = 0; i < rows.length; i++) {
            for (int what = 0; what < 3; what++) due("told " + i + ", " + what, x.told(i, what), rows[i][what]);
        }
        for (int what = 0; what < 3; what++) due("no more", x.told(3, what), NONE);
        due("the last that may be asked", x.told(39, 2), NONE);
        due("bad", x.told(40, 0), BAD);
        due("bad", x.told(-1, 0), BAD);
        due("bad", x.told(0, 3), BAD);
        due("bad", x.told(0, -1), BAD);
        begin("promise 22, by rank and not by generation");
        growChain(3);
        x.seal();
        grow(NONE, NONE);
        x.has(2);
        x.has(3);
        due("rank 3 ahead of one not sealed", x.told(0, 0), 2);
        due("then that", x.told(1, 0), 3);
    }

    private void things() {
        begin("promise 23");
        due("none", x.things(), 0);
        due("add", x.add(NONE, NONE, 0b11), 1);
        due("add", x.add(0, NONE, 0b110), 2);
        due("add", x.add(1, NONE, 0b1001), 3);
        due("add", x.add(1, NONE, 0b100000), 4);
        x.want(2);
        due("all", x.things(), 0b1111);
        x.has(0);
        due("but those of 0", x.things(), 0b1100);
        x.has(3);
        due("but those of 1; 3 is not common", x.things(), 0b1000);
        x.has(2);
        due("nothing is sent", x.things(), 0);
    }

    private void sheet() {
        begin("promise 24");
        due("bad sheet", x.sheet(4, 0, 1), BAD);
        due("bad sheet", x.sheet(-1, 0, 1), BAD);
        due("bad form", x.sheet(0, 3, 1), BAD);
        due("bad form", x.sheet(0, -1, 1), BAD);
        due("above", x.sheet(0, 0, 61), BAD);
        due("above", x.sheet(0, 0, MAX), BAD);
        due("bad ahead of size", x.sheet(0, 3, -1), BAD);
        due("no finding yet", x.count(8), 0);
        due("size", x.sheet(0, 0, -1), SIZE);
        due("size", x.sheet(3, 2, MIN), SIZE);
        due("finding", x.count(8), 5);
        due("still lost", x.lose(0), NULL_);
        due("none", x.sheet(0, 0, 0), 0);
        due("most", x.sheet(0, 2, 60), 60);
        due("0 at first", x.get(0, 2, 59), 0);
        x.lay(0, 2, 7, 70000);
        due("size", x.sheet(0, 1, -5), SIZE);
        due("is as it was", x.get(0, 2, 7), 70000);
        due("a new row", x.sheet(0, 2, 60), 60);
        due("0 again", x.get(0, 2, 7), 0);
    }

    private void lose() {
        begin("promise 25");
        due("bad", x.lose(-1), BAD);
        due("bad", x.lose(4), BAD);
        due("lost", x.lose(0), NULL_);
        due("finding", x.count(8), 1);
        x.sheet(0, 1, 12);
        due("had", x.lose(0), 12);
        due("lost", x.lose(0), NULL_);
        x.sheet(3, 0, 0);
        due("had none", x.lose(3), 0);
        due("lost", x.lose(3), NULL_);
    }

    private void lay() {
        begin("promise 26");
        due("lost", x.lay(0, 0, 0, 1), NULL_);
        due("bad ahead of lost", x.lay(0, 3, 0, 1), BAD);
        due("bad", x.lay(0, -1, 0, 1), BAD);
        due("bad", x.lay(4, 0, 0, 1), BAD);
        due("bad", x.lay(-1, 0, 0, 1), BAD);
        due("finding", x.count(8), 1);
        x.sheet(0, 0, 2);
        x.sheet(1, 1, 2);
        x.sheet(2, 2, 2);
        due("cast ahead of index", x.lay(0, 1, 2, 1), CAST);
        due("finding", x.count(8), 3);
        due("index", x.lay(0, 0, 2, 1), INDEX);
        due("index", x.lay(0, 0, -1, 1), INDEX);
        due("finding", x.count(8), 2);
        due("byte", x.lay(0, 0, 0, 128), 1);
        due("byte", x.get(0, 0, 0), -128);
        due("byte", x.lay(0, 0, 1, 0x12345), 1);
        due("byte", x.get(0, 0, 1), 0x45);
        due("short", x.lay(1, 1, 0, 32768), 1);
        due("short", x.get(1, 1, 0), -32768);
        due("short", x.lay(1, 1, 1, 0x12345), 1);
        due("short", x.get(1, 1, 1), 0x2345);
        due("int", x.lay(2, 2, 1, MIN + 5), 1);
        due("int", x.get(2, 2, 1), MIN + 5);
        due("the other item", x.get(2, 2, 0), 0);
    }

    private void get() {
        begin("promise 27");
        due("bad", x.get(4, 0, 0), MIN);
        due("bad", x.get(-1, 0, 0), MIN);
        due("bad", x.get(0, 3, 0), MIN);
        due("bad", x.get(0, -1, 0), MIN);
        due("no finding", x.count(8), 0);
        due("lost", x.get(0, 0, 0), MIN);
        due("finding", x.count(8), 1);
        x.sheet(0, 1, 1);
        due("cast ahead of index", x.get(0, 2, 1), MIN);
        due("finding", x.count(8), 3);
        due("index", x.get(0, 1, 1), MIN);
        due("finding", x.count(8), 2);
        x.get(0, 0, 0);
        due("index", x.get(0, 1, -1), MIN);
        due("finding", x.count(8), 2);
        due("item", x.get(0, 1, 0), 0);
        due("finding stays", x.count(8), 2);
    }

    private void copy() {
        begin("promise 28");
        due("bad", x.copy(4, 0, 0, 0, 0), BAD);
        due("bad", x.copy(0, 0, -1, 0, 0), BAD);
        lay(0, 2, 1, 2, 3, 4, 5);
        due("t is lost", x.copy(0, 0, 1, 0, 0), NULL_);
        due("s is lost", x.copy(1, 0, 0, 0, 0), NULL_);
        due("finding", x.count(8), 1);
        x.sheet(1, 1, 9);
        due("store ahead of index", x.copy(0, -1, 1, 0, 9), STORE);
        due("finding", x.count(8), 4);
        x.sheet(1, 2, 3);
        due("below", x.copy(0, -1, 1, 0, 1), INDEX);
        due("below", x.copy(0, 0, 1, -1, 1), INDEX);
        due("below", x.copy(0, 0, 1, 0, -1), INDEX);
        due("not so many there", x.copy(0, 0, 1, 0, 4), INDEX);
        due("not so many here", x.copy(0, 3, 1, 0, 3), INDEX);
        due("sum wraps", x.copy(0, MAX, 1, 0, MAX), INDEX);
        due("sum wraps", x.copy(0, 1, 1, 1, MAX), INDEX);
        due("none, beyond the end", x.copy(0, 6, 1, 0, 0), INDEX);
        due("finding", x.count(8), 2);
        due("nothing came", x.get(1, 2, 0), 0);
        due("none, at the end", x.copy(0, 5, 1, 3, 0), 1);
        due("two", x.copy(0, 3, 1, 1, 2), 1);
        due("item", x.get(1, 2, 0), 0);
        due("item", x.get(1, 2, 1), 4);
        due("item", x.get(1, 2, 2), 5);
        due("itself, upward", x.copy(0, 0, 0, 1, 4), 1);
        int[] upward = {1, 1, 2, 3, 4};
        for (int i = 0; i < 5; i++) due("upward " + i, x.get(0, 2, i), upward[i]);
        due("itself, downward", x.copy(0, 2, 0, 1, 3), 1);
        int[] downward = {1, 2, 3, 4, 4};
        for (int i = 0; i < 5; i++) due("downward " + i, x.get(0, 2, i), downward[i]);
    }

    private void write() {
        begin("promise 29");
        growFork();
        x.seal();
        due("bad ahead of lost", x.write(6, 0, 0), BAD);
        due("bad", x.write(0, -1, 0), BAD);
        due("bad", x.write(0, 0, 4), BAD);
        due("bad", x.write(0, 0, -1), BAD);
        due("lost", x.write(0, 0, 0), NULL_);
        due("finding", x.count(8), 1);
        lay(0, 0, 9, 9, 9, 9);
        due("4, 3, 1", x.write(1, 4, 0), 3);
        int[] items = {4, 3, 1, 9};
        for (int i = 0; i < 4; i++) due("item " + i, x.get(0, 0, i), items[i]);
        due("with generations: 5, 3", x.write(1, 5, 0), 2);
        int[] fewer = {5, 3, 1, 9};
        for (int i = 0; i < 4; i++) due("item " + i, x.get(0, 0, i), fewer[i]);
        due("none", x.write(4, 0, 0), 0);
        x.sheet(1, 1, 2);
        due("as many as there are items", x.write(1, 4, 1), 2);
        due("item", x.get(1, 1, 1), 3);
        x.sheet(1, 1, 0);
        due("no items", x.write(1, 4, 1), 0);
    }

    private void count() {
        begin("promise 30");
        due("bad", x.count(-1), BAD);
        due("bad", x.count(9), BAD);
        grow(NONE, NONE, 0, NONE, 1, NONE, 1, NONE);
        x.seal();
        grow(2, 3);
        x.has(3);
        x.want(2);
        x.want(4);
        x.lose(0);
        int[] all = {5, 4, 1, 3, 2, 1, 1, 2, 1};
        for (int what = 0; what <= 8; what++) due("count " + what, x.count(what), all[what]);
        x.clear(0);
        due("rounds, asked for first", x.count(5), 0);
        x.has(3);
        due("told, asked for first", x.count(6), 1);
        x.clear(1);
        due("sent, asked for first", x.count(7), 0);
    }

    private void digest() {
        begin("promise 31");
        // Eight zeros, ten times NONE, five zeros, 120 times NONE, a zero.
        long h = 17;
        for (int n = 0; n < 8; n++) h *= 31;
        for (int n = 0; n < 10; n++) h = 31 * h - 1;
        for (int n = 0; n < 5; n++) h *= 31;
        for (int n = 0; n < 120; n++) h = 31 * h - 1;
        h *= 31;
        due("of a new object", x.digest(), h);
        x.lose(0);
        due("findings are not in it", x.digest(), h);
        grow(NONE, NONE);
        h = 17;
        for (int v : new int[] {1, 0, 0, 0, 0, 0, 0, 0}) h = 31 * h + v;
        for (int n = 0; n < 10; n++) h = 31 * h - 1;
        // commit() 0 to 5, reach(), kept() 0 to 2, walk() 0 to 2
        for (int v : new int[] {-1, -1, 1, 99, 1, 0, 1, -3, -3, -3, 1, 0, 1}) h = 31 * h + v;
        // bases(), paints(), look() 0 to 2, ways(), far(), bases() and look() with 0
        for (int v : new int[] {1, 1, 1, 1, 1, 1, 0, 1, 1}) h = 31 * h + v;
        for (int n = 0; n < 5; n++) h *= 31;
        for (int n = 0; n < 120; n++) h = 31 * h - 1;
        h *= 31;
        due("of one commit", x.digest(), h);
        begin("promise 31, as the calls answer");
        growFork();
        due("not sealed", x.digest(), digestByCalls());
        for (int haste = 0; haste <= 1; haste++) {
            begin("promise 31, as the calls answer, haste " + haste);
            growFork();
            x.seal();
            grow(5, 4, 6, NONE, 3, NONE, 0, 8);
            x.has(4);
            x.has(8);
            x.want(5);
            x.want(9);
            x.set(0, 4 - haste);
            x.set(1, 2 - haste);
            x.set(2, haste);
            due("partly sealed", x.digest(), digestByCalls());
        }
    }

    private long digestByCalls() {
        return Observed.digestByCalls(() -> x);
    }

    private void refusalsChangeNothing() {
        begin("refusals");
        growFork();
        x.has(1);
        x.want(4);
        long before = x.digest();
        x.add(6, NONE, 0);
        x.read(0);
        x.set(0, 0);
        x.set(1, 9);
        x.set(2, 2);
        x.has(6);
        x.want(4);
        x.want(6);
        x.clear(2);
        x.write(0, 4, 0);
        x.sheet(0, 0, -1);
        due("digest", x.digest(), before);
        x.seal();
        long sealed = x.digest();
        x.seal();
        x.back();
        due("digest", x.digest(), sealed);
    }
}
