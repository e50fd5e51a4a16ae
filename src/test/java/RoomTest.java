import com.sun.management.ThreadMXBean;
import java.lang.management.ManagementFactory;

/** All calls of a run live in one room: no call after the constructor may make objects, however dear it is. */
public final class RoomTest {
    private static final int CALLS = 512;
    private static final long ROOM_FOR_THE_MEASURING = 64 * 1024;
    private static final long ROOM_FOR_ONE_OBJECT = 16 * 1024;

    public static void main(String[] args) {
        Checks checks = new Checks();
        checks.part("room");
        ThreadMXBean threads = (ThreadMXBean) ManagementFactory.getThreadMXBean();
        useAll(fullIndex(), 1);
        long start = threads.getCurrentThreadAllocatedBytes();
        CommitIndex index = fullIndex();
        long made = threads.getCurrentThreadAllocatedBytes();
        useAll(index, CALLS / 20);
        for (int n = 0; n < CALLS; n++) index.digest();
        long used = threads.getCurrentThreadAllocatedBytes();
        checks.holds("a full object takes " + (made - start) + " bytes", made - start <= ROOM_FOR_ONE_OBJECT);
        checks.holds("the calls took " + (used - made) + " bytes", used - made <= ROOM_FOR_THE_MEASURING);
        checks.end();
    }

    private static CommitIndex fullIndex() {
        CommitIndex index = new CommitIndex();
        index.add(-1, -1, 1);
        index.add(0, -1, 2);
        for (int c = 2; c < 40; c++) {
            index.add(c - 1, c - 2, c);
            if (c % 7 == 0) index.seal();
        }
        index.has(30);
        index.want(39);
        return index;
    }

    private static void useAll(CommitIndex index, int times) {
        for (int n = 0; n < times; n++) {
            for (int s = 0; s < 4; s++) {
                index.sheet(s, 2, 60);
                index.write(0, 39, s);
                index.read(s);
                index.copy(s, 0, 0, 1, 50);
                index.lay(s, 2, 0, n);
                index.get(s, 2, 0);
                index.lose(s);
            }
            for (int what = 0; what < 9; what++) {
                index.count(what);
                index.sets(what);
                index.commit(39, what);
                index.kept(39, what);
                index.walk(39, what);
                index.look(0, 39, what);
                index.told(0, what);
            }
            index.bases(39, 20);
            index.paints(39, 20);
            index.ways(0, 39);
            index.far(0, 39);
            index.reach(39);
            index.rounds();
            index.things();
            index.digest();
        }
    }
}
