import com.sun.management.ThreadMXBean;
import java.lang.management.ManagementFactory;

/** What calls allocate: setStream rows for its tokens, the constructor its rows, all others nothing. */
public final class RoomTest {
    private static final ThreadMXBean THREADS = (ThreadMXBean) ManagementFactory.getThreadMXBean();
    private static final int CALLS = 512;

    public static void main(String[] args) {
        PageInterpreter x = dearest();
        for (int round = 0; round < 3; round++) {
            askAll(x);
        }
        long before = THREADS.getCurrentThreadAllocatedBytes();
        long none = THREADS.getCurrentThreadAllocatedBytes() - before;
        before = THREADS.getCurrentThreadAllocatedBytes();
        askAll(x);
        long asked = THREADS.getCurrentThreadAllocatedBytes() - before;
        Check.due("bytes of all calls but setStream, " + asked, 0, asked - none);
        constructor();
        streams();
        Check.end("RoomTest");
    }

    /** An object with a run of many operators, forms, items and clips. */
    private static PageInterpreter dearest() {
        PageInterpreter x = Check.page("9 repeat 9 repeat $A draw next next");
        x.define(-1, 0, 2, 0);
        x.setBox(0, 0, 0, 9, 9);
        x.setBudget(200);
        x.setSize(24, 24);
        Check.stream(x, 0, "0 0 1 1 rect clip fill 1/2 0 0 1/2 1 1 concat 0 0 30 30 rect xfill");
        return x;
    }

    private static void askAll(PageInterpreter x) {
        for (int i = 0; i < CALLS; i++) {
            x.append(49);
            x.run();
            x.clearBuffer();
            x.append('?');
            x.setStream(3);
            x.setBox(1, 0, 0, 1, 1);
            x.removeBox(1);
            x.define(1, 1, 1, 1);
            x.removeResource(1, 1);
            x.setSize(24, 24);
            x.setBudget(200);
            x.undo();
            x.result(3);
            x.operand(0, 0);
            x.matrix(0, 0);
            x.trace(3, 1);
            x.cell(3, 3);
            x.itemAt(3, 3);
            x.point(0, 0, 0);
            x.bound(0, 0);
            x.doubleArea(0);
            x.item(0, i % 9);
            if (i % 16 == 0) {
                x.countColor(1);
            }
        }
    }

    private static void constructor() {
        new PageInterpreter();
        long before = THREADS.getCurrentThreadAllocatedBytes();
        new PageInterpreter();
        long bytes = THREADS.getCurrentThreadAllocatedBytes() - before;
        Check.due("bytes of an object, " + bytes, 1, bytes > 0 && bytes < 100000 ? 1 : 0);
    }

    private static void streams() {
        PageInterpreter x = new PageInterpreter();
        long most = 0;
        for (int i = 0; i < CALLS; i++) {
            for (int k = 0; k < 80; k++) {
                x.append(k % 2 == 0 ? '1' : ' ');
            }
            long before = THREADS.getCurrentThreadAllocatedBytes();
            x.setStream(i % 7 - 1);
            most = Math.max(most, THREADS.getCurrentThreadAllocatedBytes() - before);
        }
        Check.due("bytes of a stream of 40 tokens, " + most, 1, most < 40 * 16 + 300 ? 1 : 0);
    }
}
