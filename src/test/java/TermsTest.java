import java.io.IOException;
import java.util.function.Supplier;

/** The boundary cases that stand ahead of the promises: one method for each sentence that names some. */
public final class TermsTest extends Sentences {
    private static final int CALLS = 512;

    private TermsTest(String[] args) throws IOException {
        super(args);
    }

    public static void main(String[] args) throws IOException {
        TermsTest test = new TermsTest(args);
        test.numbers();
        test.reachesAndRanks();
        test.layers();
        test.looking();
        test.bases();
        test.keptAndWalks();
        test.rounds();
        test.whatIsSent();
        test.sheets();
        test.checks.end();
    }

    private void numbers() {
        fortyAtMost();
        parentsOfLessNumbers();
        twentyThings();
        fiveHundredAndTwelveCalls();
    }

    private void layers() {
        newLayer();
        noMoreThanTwice();
        joinedOneBehindAnother();
        generation();
    }

    private void looking() {
        greatestGenerationFirst();
        endsAtA();
        notOnThePileYet();
        generationAtLeast();
        generationOfBIsLess();
        plainly();
    }

    private void bases() {
        basesOfTwo();
        bothColours();
        anyThatIsNotStale();
        staleParents();
    }

    private void keptAndWalks() {
        keptNumbers();
        rootAndShare();
        foundAlready();
    }

    private void rounds() {
        firstOnThePile();
        upToPer();
        greatestRankFirst();
        toldAheadOfAnyAnswer();
        commonAndAllThatItReaches();
        parentsOnceOnly();
        commonMeanwhile();
        haste();
    }

    private void whatIsSent() {
        sentAndVain();
        thingsThatGo();
    }

    private void sheets() {
        forms();
        findings();
        refusalsOfLongs();
    }

    // ---- numbers

    private void fortyAtMost() {
        sentence(0, "COMMITS, 40 at most, are 0 on");
        CommitIndex x = chain(38);
        due("the 39th", x.add(37, NONE, 0), 39);
        due("the 40th", x.add(38, NONE, 0), 40);
        refused("the 41st", () -> chain(40), y -> y.add(39, NONE, 0), FULL);
        due("the first is 0", x.commit(0, 2), 1);
        due("the last is 39", x.commit(39, 2), 40);
        due("there is no 40", x.commit(40, 2), BAD);
    }

    private void parentsOfLessNumbers() {
        sentence(0, "each has no PARENTS, one or two (of less numbers, two unlike)");
        Supplier<CommitIndex> three = () -> chain(3);
        due("none", three.get().add(NONE, NONE, 0), 4);
        due("one, a number less", three.get().add(2, NONE, 0), 4);
        refused("one, its own number", three, x -> x.add(3, NONE, 0), BAD);
        refused("one, a number more", three, x -> x.add(4, NONE, 0), BAD);
        due("two, a number less", three.get().add(1, 2, 0), 4);
        refused("two, its own number", three, x -> x.add(1, 3, 0), BAD);
        refused("two, a number more", three, x -> x.add(1, 4, 0), BAD);
        for (int p = 0; p < 3; p++) {
            for (int q = 0; q < 3; q++) {
                int first = p;
                int second = q;
                if (p == q) refused("like ones, " + p, three, x -> x.add(first, second, 0), BAD);
                else due("unlike ones, " + p + " and " + q, three.get().add(first, second, 0), 4);
            }
        }
    }

    private void twentyThings() {
        sentence(0, "THINGS (0 to 19, as bits)");
        CommitIndex x = new CommitIndex();
        for (int thing = 0; thing <= 19; thing++) {
            due("thing " + thing, x.add(NONE, NONE, 1 << thing), thing + 1);
            due("thing " + thing + " as a bit", x.commit(thing, 4), 1 << thing);
        }
        for (int thing = 20; thing <= 31; thing++) {
            int bit = 1 << thing;
            refused("thing " + thing, CommitIndex::new, y -> y.add(NONE, NONE, bit), BAD);
            refused("thing " + thing + " with others", CommitIndex::new, y -> y.add(NONE, NONE, bit | 1), BAD);
        }
    }

    private void fiveHundredAndTwelveCalls() {
        sentence(0, "An object is used for at most 512 calls after it has been made");
        CommitIndex x = new CommitIndex();
        for (int n = 0; n < CALLS; n += 2) {
            due("add, call " + n, x.add(NONE, NONE, 5), 1);
            due("back, call " + n, x.back(), 0);
        }
        x = new CommitIndex();
        for (int n = 0; n < CALLS; n += 2) {
            due("sheet, call " + n, x.sheet(n % 4, 2, 60), 60);
            due("lose, call " + n, x.lose(n % 4), 60);
        }
        Supplier<CommitIndex> state = () -> {
            CommitIndex y = sealed(chain(40));
            y.has(30);
            y.want(39);
            return y;
        };
        x = state.get();
        long digest = state.get().digest();
        for (int n = 43; n < CALLS; n++) due("digest, call " + n, x.digest(), digest);
    }

    // ---- reach and rank

    private void reachesAndRanks() {
        sentence(0, "A COMMIT REACHES itself and all that its PARENTS REACH.");
        CommitIndex x = grown(NONE, NONE, NONE, NONE, 0, NONE, 2, 1);
        due("without parents: itself", x.reach(1), 0b10);
        due("one parent", x.reach(2), 0b101);
        due("two parents", x.reach(3), 0b1111);
        sentence(0, "RANK of one without PARENTS is 1, of another one 1 more than the greatest of its PARENTS.");
        x = grown(NONE, NONE, 0, NONE, 1, 0, 0, 1, NONE, NONE, 2, 4);
        int[] ranks = {1, 2, 3, 3, 1, 4};
        for (int c = 0; c < ranks.length; c++) due("rank of " + c, x.commit(c, 2), ranks[c]);
        due("the greatest there can be", chain(40).commit(39, 2), 40);
    }

    // ---- layers

    private void newLayer() {
        sentence(0, "a new LAYER has all that are not SEALED");
        due("one", layerSizes(1)[0], 1);
        due("forty", layerSizes(40)[0], 40);
        int[] sizes = layerSizes(20, 9, 4, 1);
        int[] all = {20, 9, 4, 1};
        for (int i = 0; i < all.length; i++) due("layer " + i, sizes[i], all[i]);
    }

    private void noMoreThanTwice() {
        sentence(0, "that has no more than twice as many, these two are one");
        for (int last = 1; last <= 12; last++) {
            due("one less than twice " + last, layerCount(2 * last - 1, last), 1);
            due("just twice " + last, layerCount(2 * last, last), 1);
            due("joined", layerSizes(2 * last, last)[0], 3 * last);
            due("one more than twice " + last, layerCount(2 * last + 1, last), 2);
        }
        due("less than the last", layerCount(1, 39), 1);
    }

    private void joinedOneBehindAnother() {
        sentence(0, "then, as long as there is a LAYER ahead of the last one");
        due("7, 3, 1 and 1", layerCount(7, 3, 1, 1), 1);
        due("twelve", layerSizes(7, 3, 1, 1)[0], 12);
        due("10, 3 and 2: twice what is joined", layerCount(10, 3, 2), 1);
        due("11, 3 and 2: one more than that", layerCount(11, 3, 2), 2);
        due("ahead", layerSizes(11, 3, 2)[0], 11);
        due("joined", layerSizes(11, 3, 2)[1], 5);
        due("15, 7, 3 and 1: the most there can be", layerCount(15, 7, 3, 1), 4);
    }

    /** Layers of so many commits each are sealed one behind another. */
    private static CommitIndex sealedBy(int... sizes) {
        CommitIndex x = new CommitIndex();
        for (int size : sizes) {
            for (int n = 0; n < size; n++) x.add(NONE, NONE, 0);
            x.seal();
        }
        return x;
    }

    private static int layerCount(int... sizes) {
        return sealedBy(sizes).count(2);
    }

    private static int[] layerSizes(int... sizes) {
        CommitIndex x = sealedBy(sizes);
        int[] all = new int[40];
        for (int i = 0; i < 40; i++) all[i] = x.layer(i);
        return all;
    }

    private void generation() {
        sentence(0, "GENERATION of a COMMIT is its RANK, if it is SEALED, else 99.");
        CommitIndex x = sealed(chain(3));
        grow(x, 2, NONE);
        due("the first", x.commit(0, 3), 1);
        due("the last that is sealed", x.commit(2, 3), 3);
        due("the first that is not", x.commit(3, 3), 99);
        x.seal();
        due("sealed too", x.commit(3, 3), 4);
    }

    // ---- looking

    private void greatestGenerationFirst() {
        sentence(0, "the one with the greatest GENERATION, of like ones with the greatest number, is taken off");
        CommitIndex x = grown(NONE, NONE, 0, NONE, NONE, NONE, 1, 2);
        due("all are 99: 3, 2, 1", x.look(1, 3, 1), 3);
        x.seal();
        due("2 is greater than 1: 3, 1", x.look(1, 3, 1), 2);
        due("plainly too", x.look(1, 3, 2), 2);
        x = sealed(grown(NONE, NONE, NONE, NONE, 0, 1));
        due("like ones: 2, 1", x.look(1, 2, 1), 2);
        due("like ones: 2, 1, 0", x.look(0, 2, 1), 3);
    }

    private void endsAtA() {
        sentence(0, "If it is a, LOOKING ends.");
        CommitIndex x = sealed(chain(5));
        due("at once", x.look(4, 4, 1), 1);
        due("at once, plainly", x.look(4, 4, 2), 1);
        due("one further", x.look(3, 4, 1), 2);
        due("one further, plainly", x.look(3, 4, 2), 2);
        due("at the end of the history", x.look(0, 4, 1), 5);
    }

    private void notOnThePileYet() {
        sentence(0, "Else those of its PARENTS that were not on THE PILE yet");
        CommitIndex x = grown(NONE, NONE, 0, NONE, 0, NONE, 1, 2, NONE, NONE);
        due("0 is put there once", x.look(4, 3, 1), 4);
        due("plainly too", x.look(4, 3, 2), 4);
        due("sealed too", sealed(x).look(4, 3, 1), 4);
    }

    /** 3 has the parents 2 (of rank 2) and 1 (of rank 1); 4 has rank 2, and 3 does not reach it. */
    private static CommitIndex forked() {
        return sealed(grown(NONE, NONE, NONE, NONE, 0, NONE, 2, 1, 1, NONE));
    }

    private void generationAtLeast() {
        sentence(0, "whose GENERATION is that of a at least, are put there");
        due("2 is as much, 1 is one less: 3, 2", forked().look(4, 3, 1), 2);
        due("all are as much: 3, 2, 1, 0", forked().look(0, 3, 1), 4);
        CommitIndex x = sealed(chain(2));
        grow(x, 1, NONE, 0, NONE);
        due("99 at least: 3", x.look(2, 3, 1), 1);
    }

    private void generationOfBIsLess() {
        sentence(0, "(If the GENERATION of b is less than that of a, none is LOOKED AT.)");
        due("one less", forked().look(3, 4, 1), 0);
        due("as much", forked().look(2, 4, 1), 1);
        due("one more", forked().look(0, 4, 1), 2);
        CommitIndex x = sealed(chain(2));
        grow(x, 1, NONE);
        due("sealed, and 99", x.look(2, 1, 1), 0);
        due("99, and sealed", x.look(1, 2, 1), 2);
        x = forked();
        due("two are looked at", x.look(0, 4, 1), 2);
        due("none is, behind that", x.look(3, 4, 1), 0);
        due("1 is met", x.look(1, 4, 0), 1);
        due("b reaches not, behind that", x.look(3, 4, 0), 0);
    }

    private void plainly() {
        sentence(0, "PLAINLY: likewise, but whatever their GENERATION.");
        due("all: 3, 2, 1, 0", forked().look(4, 3, 2), 4);
        due("b is less: 4, 1", forked().look(3, 4, 2), 2);
        CommitIndex x = sealed(chain(2));
        grow(x, 1, NONE);
        due("sealed, and 99: 1, 0", x.look(2, 1, 2), 2);
    }

    // ---- bases

    private void basesOfTwo() {
        sentence(0, "BASES of two are those that both REACH, and that no other one REACHES that both REACH.");
        CommitIndex x = grown(NONE, NONE, 0, NONE, 1, 0, 1, 0, NONE, NONE);
        due("1, and not 0 that 1 reaches", x.bases(2, 3), 0b10);
        due("one of them", x.bases(3, 1), 0b10);
        due("itself alone", x.bases(3, 3), 0b1000);
        due("none", x.bases(3, 4), 0);
        x = grown(NONE, NONE, NONE, NONE, 0, 1, 1, 0);
        due("two of them", x.bases(2, 3), 0b11);
    }

    private void bothColours() {
        sentence(0, "a has the COLOUR 1, b the COLOUR 2 (both, if they are one)");
        due("they are one", chain(3).paints(2, 2), 1);
        due("they are one, a base", chain(3).bases(2, 2), 0b100);
        due("they are one, and all there is", chain(1).paints(0, 0), 1);
        due("one is a parent of the other", chain(3).paints(2, 1), 2);
        due("turned", chain(3).paints(1, 2), 2);
    }

    private void anyThatIsNotStale() {
        sentence(0, "as long as there is any on it that is not STALE, one is taken off");
        CommitIndex x = chain(4);
        due("1 is stale behind the base 2: 3, 2", x.paints(3, 2), 2);
        // 3 is a base of 4 and 5; 2 comes off stale while 1 is not, as all are 99.
        x = grown(NONE, NONE, 0, NONE, NONE, NONE, 2, 0, 3, 1, 3, NONE);
        due("5, 4, 3, 2, 1, and 0 is stale", x.paints(4, 5), 5);
        due("sealed: 5, 4, 3, 1, and 2 and 0 are stale", sealed(x).paints(4, 5), 4);
        due("nothing is stale: all", roots(2).paints(0, 1), 2);
    }

    private void staleParents() {
        sentence(0, "are STALE, if it is STALE or has both COLOURS, and are put on THE PILE, if they were not there yet");
        // 5 and 6 have the base 4; 3, 2 and 1 are stale behind it, one behind another, and 1 has the colour of 5 too.
        CommitIndex x = grown(NONE, NONE, 0, NONE, 1, NONE, 2, NONE, 3, NONE, 4, 1, 4, NONE);
        due("4 alone", x.bases(5, 6), 0b10000);
        due("6, 5, 4, 3, 2, then 1 is stale", x.paints(5, 6), 5);
        x = grown(NONE, NONE, 0, NONE, 0, NONE, 1, 2, 2, 1);
        due("4, 3, 2, 1, and 0 once, stale", x.paints(3, 4), 4);
        due("both", x.bases(3, 4), 0b110);
        x = grown(NONE, NONE, 0, NONE, 0, NONE, 1, 2, NONE, NONE);
        due("0 is put there once", x.paints(3, 4), 5);
    }

    // ---- kept sets

    private void keptNumbers() {
        sentence(0, "KEPT are COMMITS whose number and 1 can be divided by EVERY (1 to 10; 4 at first).");
        CommitIndex x = chain(40);
        for (int c = 0; c < 40; c++) due("at first, " + c, x.kept(c, 0) == NOT ? 0 : 1, (c + 1) % 4 == 0 ? 1 : 0);
        for (int every = 1; every <= 10; every++) {
            x = with(chain(40), 0, every);
            for (int c = 0; c < 40; c++) {
                due("every " + every + ", " + c, x.kept(c, 0) == NOT ? 0 : 1, (c + 1) % every == 0 ? 1 : 0);
            }
        }
        range("every", () -> chain(40), 1, 10, BAD, (y, v) -> y.set(0, v));
    }

    private void rootAndShare() {
        sentence(0, "The ROOT of one that is KEPT is the greatest other KEPT one that it REACHES; NONE.");
        CommitIndex x = with(grown(NONE, NONE, NONE, NONE, 0, NONE, 1, NONE, 2, NONE, 3, 4), 0, 2);
        due("1 reaches itself alone", x.kept(1, 0), NONE);
        due("3 reaches 1", x.kept(3, 0), 1);
        due("5 reaches 3 and 1", x.kept(5, 0), 3);
        x = with(grown(NONE, NONE, NONE, NONE, 0, NONE, 2, NONE, 3, NONE, 1, NONE), 0, 2);
        due("3 does not reach 1", x.kept(3, 0), NONE);
        due("5 does not reach 3", x.kept(5, 0), 1);
        sentence(0, "Its SHARE is what it REACHES and its ROOT does not.");
        due("without a root all", x.kept(3, 1), 3);
        due("itself", x.kept(5, 1), 1);
        due("a chain's", with(chain(4), 0, 2).kept(3, 1), 2);
    }

    private void foundAlready() {
        sentence(0, "if it is found already, nothing; if it is KEPT, all that it REACHES is found, and it is USED");
        // 5 has the parents 4 and 3; 3 is kept and has found 2, that 4 has put there too.
        CommitIndex x = grown(NONE, NONE, 0, NONE, 1, NONE, 2, NONE, 2, NONE, 4, 3);
        due("5 and 4", x.walk(5, 0), 2);
        due("3", x.walk(5, 1), 1);
        due("all", x.walk(5, 2), 6);
        // 4 has the parents 3 and 1; both are kept, and 3 has found 1.
        x = with(grown(NONE, NONE, 0, NONE, 1, NONE, 2, NONE, 3, 1), 0, 2);
        due("1 is not used", x.walk(4, 1), 1);
        due("4", x.walk(4, 0), 1);
        x = with(grown(NONE, NONE, 0, NONE, 0, NONE, 1, 2), 0, 10);
        due("0 is looked at once", x.walk(3, 0), 4);
        due("itself, kept", with(chain(3), 0, 3).walk(2, 0), 0);
        due("2, and 1 is kept", with(chain(3), 0, 2).walk(2, 0), 1);
    }

    // ---- rounds

    private void firstOnThePile() {
        sentence(0, "on a PILE are first all that it HAS and that no other one that it HAS REACHES");
        CommitIndex x = with(grown(NONE, NONE, 0, NONE, 0, NONE, 1, NONE, NONE, NONE), 1, 8);
        due("nothing is had", x.rounds(), 0);
        x.has(4);
        due("4 alone", x.count(6), 1);
        x.has(1);
        x.has(2);
        x.want(3);
        x.want(2);
        due("2, 1 and 4, not 0", x.count(6), 3);
        due("in one round", x.rounds(), 1);
        x.has(3);
        due("3, 2 and 4, not 1 any more", x.count(6), 3);
        due("3 first", x.told(0, 0), 3);
    }

    private void upToPer() {
        sentence(0, "in each ROUND up to PER (1 to 8; 2 at first) are taken off");
        int[] atFirst = {0, 1, 1, 2, 2, 3};
        for (int n = 0; n < atFirst.length; n++) due("2 at first, of " + n, hadRoots(n).rounds(), atFirst[n]);
        for (int per = 1; per <= 8; per++) {
            for (int n = 1; n <= 17; n++) {
                CommitIndex x = with(hadRoots(n), 1, per);
                due(per + " of " + n, x.rounds(), (n + per - 1) / per);
                due(per + " of " + n + ", the last one's round", x.told(n - 1, 2), (n - 1) / per);
            }
        }
        range("per", () -> hadRoots(9), 1, 8, BAD, (y, v) -> y.set(1, v));
    }

    private static CommitIndex hadRoots(int n) {
        CommitIndex x = roots(n);
        for (int c = 0; c < n; c++) x.has(c);
        return x;
    }

    private void greatestRankFirst() {
        sentence(0, "the greatest RANK, of like ones the greatest number first, and TOLD");
        CommitIndex x = sealed(grown(NONE, NONE, 0, NONE, NONE, NONE, 0, NONE));
        grow(x, NONE, NONE);
        for (int c = 1; c < 5; c++) {
            x.has(c);
            x.want(c);
        }
        int[] order = {3, 1, 4, 2};
        for (int i = 0; i < order.length; i++) due("told " + i, x.told(i, 0), order[i]);
        due("no more", x.told(order.length, 0), NONE);
    }

    private void toldAheadOfAnyAnswer() {
        sentence(0, "all of these ahead of any answer; then THE GIVER answers, in the same order");
        // 1 and 0 are on the pile for 2 and 3; 1 is common, and so is 0, but told in the same round.
        CommitIndex x = grown(NONE, NONE, 0, NONE, 1, NONE, 0, NONE);
        x.has(2);
        x.has(3);
        x.want(1);
        int[][] rows = {{2, 0, 0}, {3, 0, 0}, {1, 1, 1}, {0, 1, 1}};
        told("two by two", x, rows);
        x.set(1, 1);
        int[][] oneByOne = {{2, 0, 0}, {3, 0, 1}, {1, 1, 2}};
        told("one by one", x, oneByOne);
    }

    private void told(String what, CommitIndex x, int[][] rows) {
        for (int i = 0; i < rows.length; i++) {
            for (int part = 0; part < 3; part++) due(what + ", " + i + ", " + part, x.told(i, part), rows[i][part]);
        }
        for (int part = 0; part < 3; part++) due(what + ", no more", x.told(rows.length, part), NONE);
        due(what + ", how many", x.count(6), rows.length);
        due(what + ", rounds", x.rounds(), rows[rows.length - 1][2] + 1);
    }

    private void commonAndAllThatItReaches() {
        sentence(0, "what is WANTED REACHES it: it is COMMON, and so is all that it REACHES");
        CommitIndex x = chain(4);
        x.has(2);
        x.want(1);
        due("2 is not reached; 1 is wanted itself", x.sets(2), 0b11);
        x.want(2);
        due("2 is wanted itself", x.sets(2), 0b111);
        x.clear(1);
        due("nothing is wanted", x.sets(2), 0);
        x.want(3);
        due("3 is not had", x.sets(2), 0b111);
    }

    private void parentsOnceOnly() {
        sentence(0, "else those of its PARENTS that are not COMMON and were not on THE PILE yet are put there");
        CommitIndex x = grown(NONE, NONE, 0, NONE, 0, NONE, 0, NONE);
        x.has(1);
        x.has(2);
        told("0 once", x, new int[][] {{2, 0, 0}, {1, 0, 0}, {0, 0, 1}});
        x.want(2);
        told("0 is common for 2", x, new int[][] {{2, 1, 0}, {1, 0, 0}});
        x = with(grown(NONE, NONE, 0, NONE, 0, NONE, 2, NONE), 1, 1);
        x.has(1);
        x.has(3);
        told("0 once, told behind 2 and 1", x, new int[][] {{3, 0, 0}, {2, 0, 1}, {1, 0, 2}, {0, 0, 3}});
        x.set(1, 2);
        told("0 was there when 2 is answered", x, new int[][] {{3, 0, 0}, {1, 0, 0}, {2, 0, 1}, {0, 0, 1}});
    }

    private void commonMeanwhile() {
        sentence(0, "(One that is COMMON meanwhile is taken off as nothing, and not TOLD.)");
        CommitIndex x = grown(NONE, NONE, 0, NONE, 0, NONE, NONE, NONE);
        x.has(1);
        x.has(2);
        x.want(1);
        told("0 is left, and makes no round", x, new int[][] {{2, 0, 0}, {1, 1, 0}});
        x.has(3);
        told("0 and 3 are left", x, new int[][] {{2, 0, 0}, {1, 1, 0}, {3, 0, 1}});
        // 1 is common meanwhile, ahead of 5 and 4, and does not count for PER.
        x = grown(NONE, NONE, 0, NONE, 1, NONE, 1, NONE, NONE, NONE, NONE, NONE);
        for (int c = 2; c < 6; c++) x.has(c);
        x.want(2);
        told("1 is nothing", x, new int[][] {{3, 0, 0}, {2, 1, 0}, {5, 0, 1}, {4, 0, 1}});
    }

    private void haste() {
        sentence(0, "It ends when THE PILE is empty; by HASTE (1; 0 at first) also behind a ROUND"
            + " when each that is WANTED REACHES any that is COMMON.");
        Supplier<CommitIndex> state = () -> {
            CommitIndex x = with(hadRoots(4), 1, 1);
            grow(x, 3, 2, 1, 0);
            x.want(4);
            return x;
        };
        due("0 at first: 3, 2, 1, 0", state.get().rounds(), 4);
        CommitIndex x = with(state.get(), 2, 1);
        due("behind the first round, as 4 reaches 3", x.rounds(), 1);
        due("told", x.count(6), 1);
        x.want(5);
        due("till 5 reaches one too: 3, 2, 1", x.rounds(), 3);
        due("told", x.count(6), 3);
        x.set(2, 0);
        due("slowly again", x.rounds(), 4);
        x = with(with(state.get(), 1, 3), 2, 1);
        due("behind a round, not in it", x.count(6), 3);
        x.clear(1);
        due("each of none", x.rounds(), 1);
        x.clear(0);
        due("no round", x.rounds(), 0);
        hasteTillAll(0);
        hasteTillAll(38);
        range("haste", state, 0, 1, BAD, (y, v) -> y.set(2, v));
    }

    /** 39 reaches 20, that is told first and common; behind that 10 is told, if c that reaches nothing common is wanted. */
    private void hasteTillAll(int c) {
        CommitIndex x = with(with(roots(39), 1, 1), 2, 1);
        grow(x, 20, NONE);
        x.has(20);
        x.has(10);
        x.want(39);
        due("39 alone, not " + c, x.rounds(), 1);
        x.want(c);
        due("39 and " + c, x.rounds(), 2);
    }

    // ---- what is sent

    private void sentAndVain() {
        sentence(0, "SENT is all that what is WANTED REACHES, and is not COMMON. VAIN are those of these that THE TAKER HAS.");
        CommitIndex x = with(hadRoots(2), 1, 1);
        grow(x, 1, 0);
        due("nothing is wanted", x.sets(3), 0);
        due("nothing is in vain", x.sets(4), 0);
        x.want(2);
        due("2 alone", x.sets(3), 0b100);
        due("nothing is in vain", x.sets(4), 0);
        x.set(2, 1);
        due("2, and 0 by haste", x.sets(3), 0b101);
        due("0 in vain", x.sets(4), 0b1);
        x.clear(0);
        due("nothing is had: all", x.sets(3), 0b111);
        due("nothing is had: nothing in vain", x.sets(4), 0);
        x.has(2);
        due("all is had: nothing", x.sets(3), 0);
    }

    private void thingsThatGo() {
        sentence(0, "THINGS go with it that any SENT one has, and no COMMON one.");
        CommitIndex x = new CommitIndex();
        x.add(NONE, NONE, 1 << 19 | 1 << 1);
        x.add(0, NONE, 1 << 19 | 1);
        x.add(NONE, NONE, 1 << 2);
        due("nothing is sent", x.things(), 0);
        x.want(1);
        due("nothing is common", x.things(), 1 << 19 | 0b11);
        x.has(0);
        due("19 and 1 are with 0", x.things(), 1);
        x.has(2);
        x.want(2);
        due("2 is common too", x.things(), 1);
        x.has(1);
        due("all is common", x.things(), 0);
    }

    // ---- sheets

    private void forms() {
        sentence(0, "SHEETS 0 .. 3 are LOST (at first) or a row of a FORM: 0 bytes, 1 shorts, 2 ints,"
            + " of 0 to 60 items (0 at first).");
        for (int s = 0; s <= 3; s++) {
            int at = s;
            refused("lost at first, " + s, CommitIndex::new, x -> x.lose(at), NULL_);
            for (int form = 0; form <= 2; form++) {
                CommitIndex x = new CommitIndex();
                due("no items", x.sheet(s, form, 0), 0);
                due("there are none", x.lay(s, form, 0, 1), INDEX);
                due("sixty", x.sheet(s, form, 60), 60);
                for (int i = 0; i < 60; i++) due("0 at first", x.get(s, form, i), 0);
                due("not one more", x.lay(s, form, 60, 1), INDEX);
            }
        }
        refused("no sheet 4", CommitIndex::new, x -> x.lose(4), BAD);
        refused("no sheet below 0", CommitIndex::new, x -> x.lose(-1), BAD);
    }

    private void findings() {
        sentence(0, "FINDINGS (answers -10 less the number; they change nothing but count() 8)");
        Supplier<CommitIndex> state = () -> laid(laid(chain(3), 0, 2, 5, 6, 7), 1, 1, 8);
        due("0 before any", state.get().count(8), 0);
        refused("1 NULL", state, x -> x.lay(2, 2, 0, 1), -11);
        refused("2 INDEX", state, x -> x.lay(0, 2, 3, 1), -12);
        refused("3 CAST", state, x -> x.lay(0, 1, 0, 1), -13);
        refused("4 STORE", state, x -> x.copy(0, 0, 1, 0, 1), -14);
        refused("5 SIZE", state, x -> x.sheet(0, 2, -1), -15);
    }

    private void refusalsOfLongs() {
        sentence(0, "Where the answer is a long, a refusal -x is the least long and x more.");
        due("reach", chain(3).reach(3), Long.MIN_VALUE + 2);
        due("bases", chain(3).bases(3, 0), Long.MIN_VALUE + 2);
        due("ways", chain(3).ways(0, 3), Long.MIN_VALUE + 2);
        due("sets", chain(3).sets(5), Long.MIN_VALUE + 2);
    }
}
