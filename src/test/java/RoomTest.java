import com.sun.management.ThreadMXBean;
import java.lang.management.ManagementFactory;

/** All calls of a run live in one room: a league is small, and its calls make nothing. */
public final class RoomTest {
    private static final int LEAGUE_BYTES = 40_000;
    // What the measuring itself may take.
    private static final int SLACK_BYTES = 2_000;
    private static final Check check = new Check("RoomTest");

    public static void main(String[] args) {
        ThreadMXBean threads = (ThreadMXBean) ManagementFactory.getThreadMXBean();
        ChairLeague x = new ChairLeague();
        calls(x);
        long before = threads.getCurrentThreadAllocatedBytes();
        x = new ChairLeague();
        long made = threads.getCurrentThreadAllocatedBytes();
        int sum = calls(x);
        long called = threads.getCurrentThreadAllocatedBytes();
        check.due("a league takes at most " + LEAGUE_BYTES + " bytes",
                Math.max(made - before, LEAGUE_BYTES), LEAGUE_BYTES);
        check.due("calls take at most " + SLACK_BYTES + " bytes",
                Math.max(called - made, SLACK_BYTES), SLACK_BYTES);
        check.due("calls answer", sum == 0 ? 0 : 1, 1);
        check.finish();
    }

    /** Each call of the face, the dear ones in a full league. */
    private static int calls(ChairLeague x) {
        int sum = 0;
        for (int k = 0; k < 11; k++) {
            sum += x.chair(k & 3, 1 + k % 9) + x.musician(k & 3, 1 + k * 4 % 9, k & 1);
        }
        for (int k = 0; k < 12; k++) {
            sum += x.season() + x.bid(k, k) + x.sell(1 + k % 9) + x.concert(1 + k % 4);
            sum += x.would(k) + x.wouldAgain(k) + x.isBalanced() + x.restless() + x.lasts(1);
            sum += x.seat(k, k) + x.rise(k) + x.raise(k) + x.promote(k) + x.hall(0);
            sum += x.ranked(k) + x.richest(k) + x.tell(k) + x.tellMusicians() + x.character(k);
            sum += x.append('a') + x.run() + x.append('r') + x.append('0') + x.run();
            sum += x.reason(0, false) + x.account(k) + (int) x.meanFit() + (int) x.fallenShare();
            sum += x.chairOf(k, 5) + x.musicianOf(k, 3) + x.fit(k, k);
            sum += x.save() + x.undo() + x.chair(0, 5) + (k == 6 ? x.restore() : 0);
        }
        return sum;
    }
}
