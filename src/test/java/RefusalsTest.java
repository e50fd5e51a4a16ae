import java.io.IOException;
import java.util.List;
import java.util.function.Supplier;
import java.util.function.ToLongFunction;

/** Where several refusals fit, the first in the document's order is answered; and whatever is refused changes nothing. */
public final class RefusalsTest extends Sentences {
    private static final int[] WRONG = {-2, 99, MIN, MAX};
    private static final List<ToLongFunction<CommitIndex>> QUESTIONS = List.of(
        x -> x.layer(0), x -> x.layer(39), x -> x.commit(6, 3), x -> x.commit(0, 5), x -> x.reach(5),
        x -> x.look(0, 6, 0), x -> x.look(6, 0, 0), x -> x.look(0, 6, 1), x -> x.look(6, 0, 1), x -> x.look(4, 3, 2),
        x -> x.bases(5, 6), x -> x.paints(5, 6), x -> x.bases(4, 6), x -> x.paints(4, 4), x -> x.ways(0, 5),
        x -> x.ways(5, 0), x -> x.far(0, 5), x -> x.far(4, 6), x -> x.kept(5, 0), x -> x.kept(5, 1), x -> x.kept(5, 2),
        x -> x.walk(6, 0), x -> x.walk(5, 1), x -> x.walk(4, 2), x -> x.sets(0), x -> x.sets(1), x -> x.sets(2),
        x -> x.sets(3), x -> x.sets(4), CommitIndex::rounds, x -> x.told(0, 0), x -> x.told(1, 1), x -> x.told(39, 2),
        CommitIndex::things, x -> x.get(0, 2, 3), x -> x.get(1, 1, 0), x -> x.count(0), x -> x.count(5),
        x -> x.count(6), x -> x.count(7), x -> x.count(8), CommitIndex::digest);

    private RefusalsTest(String[] args) throws IOException {
        super(args);
    }

    public static void main(String[] args) throws IOException {
        RefusalsTest test = new RefusalsTest(args);
        test.badAheadOfFull();
        test.badAheadOfNot();
        test.badAheadOfSize();
        test.orderOfLay();
        test.orderOfGet();
        test.badOrNullAheadInCopy();
        test.storeAheadOfIndex();
        test.badAheadOfNull();
        test.commitsAreAsTheyWere();
        test.questionsAreRefused();
        test.sheetsAreAsTheyWere();
        test.questionsChangeNothing();
        test.checks.end();
    }

    // ---- the first that fits

    private void badAheadOfFull() {
        sentence(2, "BAD; FULL.");
        Supplier<CommitIndex> full = () -> chain(40);
        for (int wrong : new int[] {-2, 40, 41, MIN, MAX}) {
            refused("p " + wrong, full, x -> x.add(wrong, NONE, 0), BAD);
            refused("q " + wrong, full, x -> x.add(0, wrong, 0), BAD);
        }
        refused("q alone", full, x -> x.add(NONE, 0, 0), BAD);
        refused("like ones", full, x -> x.add(39, 39, 0), BAD);
        refused("things below", full, x -> x.add(0, NONE, -1), BAD);
        refused("things above", full, x -> x.add(0, NONE, 1048576), BAD);
        refused("nothing but full", full, x -> x.add(39, 38, 1048575), FULL);
    }

    private void badAheadOfNot() {
        sentence(15, "BAD; NOT: it is not KEPT.");
        for (int what : new int[] {-1, 3, MIN, MAX}) {
            refused("not kept, what " + what, () -> chain(5), x -> x.kept(0, what), BAD);
            refused("kept, what " + what, () -> chain(5), x -> x.kept(3, what), BAD);
        }
        // -1 and 1 is 0, that any number divides; 7 and 1 can be divided by 4.
        for (int c : new int[] {-5, -1, 5, 7, MIN, MAX}) refused("c " + c, () -> chain(5), x -> x.kept(c, 0), BAD);
        refused("nothing but not kept", () -> chain(5), x -> x.kept(4, 2), NOT);
        sentence(18, "BAD; NOT: it is already.");
        refused("already, but undone since", () -> undone(), x -> x.want(2), BAD);
        refused("nothing but already", () -> undone(), x -> x.want(1), NOT);
    }

    /** 2 was wanted and is undone; 1 is wanted. */
    private static CommitIndex undone() {
        CommitIndex x = chain(3);
        x.want(1);
        x.want(2);
        x.back();
        return x;
    }

    private void badAheadOfSize() {
        sentence(24, "BAD: SHEET, FORM, above 60; SIZE.");
        for (int wrong : WRONG) {
            refused("sheet " + wrong, this::rich, x -> x.sheet(wrong, 0, -1), BAD);
            refused("form " + wrong, this::rich, x -> x.sheet(0, wrong, -1), BAD);
            refused("form " + wrong + ", above", this::rich, x -> x.sheet(0, wrong, 61), BAD);
            refused("both " + wrong, this::rich, x -> x.sheet(wrong, wrong, MIN), BAD);
        }
        refused("nothing but size", this::rich, x -> x.sheet(0, 0, -1), SIZE);
    }

    private void orderOfLay() {
        sentence(26, "BAD; NULL; CAST; INDEX.");
        for (int wrong : WRONG) {
            refused("BAD sheet, and INDEX", this::rich, x -> x.lay(wrong, 0, -1, 9), BAD);
            refused("BAD form, and NULL", this::rich, x -> x.lay(3, wrong, -1, 9), BAD);
            refused("BAD form, and CAST and INDEX", this::rich, x -> x.lay(0, wrong, -1, 9), BAD);
            refused("NULL, and INDEX", this::rich, x -> x.lay(3, 2, wrong, 9), NULL_);
            refused("CAST, and INDEX", this::rich, x -> x.lay(0, 1, wrong, 9), CAST);
            refused("INDEX", this::rich, x -> x.lay(0, 2, wrong, 9), INDEX);
        }
        refused("NULL, though it had another form", this::rich, x -> x.lay(3, 0, 0, 9), NULL_);
        refused("NULL, though it had this form", this::rich, x -> x.lay(3, 1, 0, 9), NULL_);
        refused("CAST, of a row without items", () -> laid(chain(1), 0, 0), x -> x.lay(0, 1, 0, 9), CAST);
    }

    private void orderOfGet() {
        sentence(27, "BAD: the least int; so are NULL, CAST, INDEX (count() 8 tells).");
        for (int wrong : WRONG) {
            refused("BAD sheet, and INDEX", this::rich, x -> x.get(wrong, 0, -1), MIN, 0);
            refused("BAD form, and NULL", this::rich, x -> x.get(3, wrong, -1), MIN, 0);
            refused("BAD form, and CAST and INDEX", this::rich, x -> x.get(0, wrong, -1), MIN, 0);
            refused("NULL, and INDEX", this::rich, x -> x.get(3, 2, wrong), MIN, 1);
            refused("CAST, and INDEX", this::rich, x -> x.get(0, 1, wrong), MIN, 3);
            refused("INDEX", this::rich, x -> x.get(0, 2, wrong), MIN, 2);
        }
        refused("NULL, though it had this form", this::rich, x -> x.get(3, 1, 0), MIN, 1);
        refused("CAST, of a row without items", () -> laid(chain(1), 0, 0), x -> x.get(0, 1, 0), MIN, 3);
    }

    private void badOrNullAheadInCopy() {
        sentence(28, "BAD: the SHEETS; NULL: s, t; STORE; INDEX: below 0, not so many.");
        for (int wrong : WRONG) {
            refused("BAD s, and t is lost", this::rich, x -> x.copy(wrong, -1, 3, -1, -1), BAD);
            refused("BAD t, and s is lost", this::rich, x -> x.copy(3, -1, wrong, -1, -1), BAD);
            refused("BAD t, and INDEX", this::rich, x -> x.copy(0, -1, wrong, -1, -1), BAD);
            refused("NULL s, and INDEX", this::rich, x -> x.copy(3, wrong, 0, wrong, wrong), NULL_);
            refused("NULL t, and INDEX", this::rich, x -> x.copy(0, wrong, 3, wrong, wrong), NULL_);
        }
        refused("NULL s, that had another form", this::rich, x -> x.copy(3, 0, 0, 0, 1), NULL_);
        refused("NULL t, that had another form", this::rich, x -> x.copy(0, 0, 3, 0, 1), NULL_);
    }

    private void storeAheadOfIndex() {
        sentence(28, "STORE; INDEX: below 0, not so many.");
        for (int wrong : WRONG) {
            refused("STORE, and i " + wrong, this::rich, x -> x.copy(0, wrong, 1, 0, 1), STORE);
            refused("STORE, and j " + wrong, this::rich, x -> x.copy(0, 0, 1, wrong, 1), STORE);
            refused("STORE, and n " + wrong, this::rich, x -> x.copy(1, 0, 0, 0, wrong), STORE);
            refused("INDEX i " + wrong, this::rich, x -> x.copy(0, wrong, 2, 0, 1), INDEX);
            refused("INDEX j " + wrong, this::rich, x -> x.copy(0, 0, 2, wrong, 1), INDEX);
            refused("INDEX n " + wrong, this::rich, x -> x.copy(0, 0, 2, 0, wrong), INDEX);
        }
    }

    private void badAheadOfNull() {
        sentence(29, "BAD: COMMITS, SHEET; NULL.");
        for (int wrong : new int[] {-1, 7, MIN, MAX}) {
            refused("a " + wrong + ", lost", this::rich, x -> x.write(wrong, 0, 3), BAD);
            refused("b " + wrong + ", lost", this::rich, x -> x.write(0, wrong, 3), BAD);
            refused("a " + wrong, this::rich, x -> x.write(wrong, 0, 0), BAD);
            refused("b " + wrong, this::rich, x -> x.write(0, wrong, 0), BAD);
            refused("s " + wrong, this::rich, x -> x.write(0, 6, wrong), BAD);
        }
        refused("nothing but lost", this::rich, x -> x.write(0, 6, 3), NULL_);
    }

    // ---- they change nothing

    /**
     * Of all there can be some: 7 commits, 5 of them sealed; settings unlike those at first; sheets of ints, shorts
     * and ints, the last one lost behind shorts; the latest finding is CAST.
     */
    private CommitIndex rich() {
        CommitIndex x = sealed(grown(NONE, NONE, 0, NONE, 0, NONE, 1, 2, NONE, NONE));
        grow(x, 3, 4, 3, NONE);
        x.has(4);
        x.has(2);
        x.want(5);
        x.want(6);
        with(with(with(x, 0, 2), 1, 3), 2, 1);
        laid(laid(laid(laid(x, 0, 2, 3, NONE, 7, 99999), 1, 1, -9, 300), 2, 2, 1, 2, 3), 3, 1, 5, 5);
        x.lose(3);
        x.lay(0, 0, 0, 0);
        return x;
    }

    private void commitsAreAsTheyWere() {
        sentence(0, "They change nothing (FINDINGS but count() 8).");
        for (int wrong : WRONG) {
            refused("add p", this::rich, x -> x.add(wrong, NONE, 1), BAD);
            refused("add q", this::rich, x -> x.add(0, wrong, 1), BAD);
            refused("read", this::rich, x -> x.read(wrong), BAD);
            refused("layer", this::rich, x -> x.layer(wrong), BAD);
            refused("set what", this::rich, x -> x.set(wrong, 1), BAD);
            for (int what = 0; what <= 2; what++) {
                int setting = what;
                refused("set " + what, this::rich, x -> x.set(setting, wrong), BAD);
            }
            refused("has", this::rich, x -> x.has(wrong), BAD);
            refused("want", this::rich, x -> x.want(wrong), BAD);
            refused("clear", this::rich, x -> x.clear(wrong), BAD);
        }
        refused("add things", this::rich, x -> x.add(0, NONE, -1), BAD);
        refused("read of a lost one", this::rich, x -> x.read(3), NULL_);
        refused("want again", this::rich, x -> x.want(6), NOT);
        refused("back, sealed", () -> sealed(rich()), CommitIndex::back, NOT);
        refused("seal, sealed", () -> sealed(rich()), CommitIndex::seal, NOT);
    }

    private void questionsAreRefused() {
        sentence(0, "BAD -2 (a number not as told, no such thing)");
        for (int wrong : WRONG) {
            refused("commit c", this::rich, x -> x.commit(wrong, 0), BAD);
            refused("commit what", this::rich, x -> x.commit(0, wrong), BAD);
            refused("reach", this::rich, x -> x.reach(wrong), BAD_LONG);
            refused("look a", this::rich, x -> x.look(wrong, 0, 0), BAD);
            refused("look b", this::rich, x -> x.look(0, wrong, 0), BAD);
            refused("look what", this::rich, x -> x.look(0, 0, wrong), BAD);
            refused("bases a", this::rich, x -> x.bases(wrong, 0), BAD_LONG);
            refused("bases b", this::rich, x -> x.bases(0, wrong), BAD_LONG);
            refused("paints a", this::rich, x -> x.paints(wrong, 0), BAD);
            refused("paints b", this::rich, x -> x.paints(0, wrong), BAD);
            refused("ways a", this::rich, x -> x.ways(wrong, 0), BAD_LONG);
            refused("ways b", this::rich, x -> x.ways(0, wrong), BAD_LONG);
            refused("far a", this::rich, x -> x.far(wrong, 0), BAD);
            refused("far b", this::rich, x -> x.far(0, wrong), BAD);
            refused("both alike", this::rich, x -> x.far(wrong, wrong), BAD);
            refused("kept c", this::rich, x -> x.kept(wrong, 0), BAD);
            refused("walk c", this::rich, x -> x.walk(wrong, 0), BAD);
            refused("walk what", this::rich, x -> x.walk(0, wrong), BAD);
            refused("sets", this::rich, x -> x.sets(wrong), BAD_LONG);
            refused("told i", this::rich, x -> x.told(wrong, 0), BAD);
            refused("told what", this::rich, x -> x.told(0, wrong), BAD);
            refused("count", this::rich, x -> x.count(wrong), BAD);
        }
    }

    private void sheetsAreAsTheyWere() {
        sentence(0, "They change nothing (FINDINGS but count() 8).");
        refused("sheet, above 60", this::rich, x -> x.sheet(0, 0, 61), BAD);
        refused("sheet, SIZE", this::rich, x -> x.sheet(1, 0, -1), SIZE);
        refused("lose, BAD", this::rich, x -> x.lose(4), BAD);
        refused("lose, NULL", this::rich, x -> x.lose(3), NULL_);
        refused("lay, CAST", this::rich, x -> x.lay(1, 2, 0, 1), CAST);
        refused("lay, INDEX", this::rich, x -> x.lay(1, 1, 2, 1), INDEX);
        refused("copy, INDEX: all but the last would come", this::rich, x -> x.copy(0, 1, 2, 0, 4), INDEX);
        refused("copy, INDEX: all but the last would go", this::rich, x -> x.copy(0, 0, 2, 0, 4), INDEX);
        refused("copy to itself, INDEX", this::rich, x -> x.copy(0, 0, 0, 1, 4), INDEX);
        refused("copy, STORE", this::rich, x -> x.copy(1, 0, 2, 0, 2), STORE);
        refused("write, NULL", this::rich, x -> x.write(0, 6, 3), NULL_);
        refused("write, BAD", this::rich, x -> x.write(0, 7, 0), BAD);
    }

    // ---- neither do questions

    private void questionsChangeNothing() {
        checks.part("questions change nothing, and are answered alike whatever was asked before");
        CommitIndex asked = rich();
        CommitIndex askedBackwards = rich();
        long[] fresh = new long[QUESTIONS.size()];
        for (int i = 0; i < QUESTIONS.size(); i++) {
            fresh[i] = QUESTIONS.get(i).applyAsLong(rich());
            refused("question " + i, this::rich, QUESTIONS.get(i), fresh[i], 0);
            due("question " + i + ", behind others", QUESTIONS.get(i).applyAsLong(asked), fresh[i]);
        }
        for (int i = QUESTIONS.size() - 1; i >= 0; i--) {
            due("question " + i + ", ahead of others", QUESTIONS.get(i).applyAsLong(askedBackwards), fresh[i]);
        }
    }
}
