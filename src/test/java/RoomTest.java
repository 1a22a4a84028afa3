import com.sun.management.ThreadMXBean;
import java.lang.management.ManagementFactory;

/** The room of a run: a desk is small, and calls make nothing but kinds and listeners. */
public final class RoomTest {
    private static final ThreadMXBean THREADS = (ThreadMXBean) ManagementFactory.getThreadMXBean();
    // Far above what asking for the number makes itself, far below one small object for each call.
    private static final long LITTLE = 2000;
    private static final int DESKS = 20;
    // Five calls each: with those that fill the desk they are 512 at most.
    private static final int ROUNDS = 29;

    private static long answers;

    public static void main(String[] args) {
        Check check = new Check("RoomTest");
        measureDesks(10);
        long desks = measureDesks(100) / 100;
        check.due("bytes of a new desk, or 16384", Math.max(16384, desks), 16384);
        ShowDesk[] full = new ShowDesk[DESKS];
        for (int i = 0; i < DESKS; i++) full[i] = fullDesk();
        makeDearCalls(fullDesk());
        long ahead = THREADS.getCurrentThreadAllocatedBytes();
        for (ShowDesk x : full) makeDearCalls(x);
        long calls = THREADS.getCurrentThreadAllocatedBytes() - ahead;
        check.due("bytes of dear calls, or " + LITTLE, Math.max(LITTLE, calls), LITTLE);
        check.due("cues of a dear send", full[0].told(1), 60);
        check.end();
    }

    private static long measureDesks(int many) {
        long ahead = THREADS.getCurrentThreadAllocatedBytes();
        for (int i = 0; i < many; i++) answers += new ShowDesk().count(0);
        return THREADS.getCurrentThreadAllocatedBytes() - ahead;
    }

    private static ShowDesk fullDesk() {
        ShowDesk x = new ShowDesk();
        x.kind(ShowDesk.NONE);
        x.kind(ShowDesk.NONE);
        for (int i = 0; i < 200; i++) x.listen(0, i % 3, i, ShowDesk.NONE);
        for (int l = 0; l < 40; l++) {
            int[] ops = {17, 15, 14, 8};
            for (int op : ops) x.step(l, op, op == 17 ? 16 : 0);
        }
        x.step(41, 12, 0);
        x.step(42, 11, 1);
        return x;
    }

    private static void makeDearCalls(ShowDesk x) {
        for (int i = 0; i < ROUNDS; i++) {
            answers += x.turn(0, 1, i);
            answers += x.tray(i % 8, i % 3, i % 17);
            answers += x.send(0, i) + x.back(i % 51) + x.failure(i, 0);
        }
    }
}
