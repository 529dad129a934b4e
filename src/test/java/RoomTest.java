import com.sun.management.ThreadMXBean;
import java.lang.management.ManagementFactory;

/** All calls of a run share one room: the dearest ones make next to nothing beyond the object itself. */
public final class RoomTest {
    /** With the three calls ahead of them some 500: an object is used for at most 512. */
    private static final int ROUNDS = 31;
    /** A code's table grows at most to some 15360 numbers, by doubling. */
    private static final long MOST_BYTES = 200_000;
    private static final Check check = new Check("RoomTest");

    public static void main(String[] args) {
        ThreadMXBean threads = (ThreadMXBean) ManagementFactory.getThreadMXBean();
        long self = Thread.currentThread().getId();
        play(new LostLetters());
        LostLetters x = new LostLetters();
        long before = threads.getThreadAllocatedBytes(self);
        play(x);
        long made = threads.getThreadAllocatedBytes(self) - before;
        check.due("more than " + MOST_BYTES + " bytes (" + made + ")", made > MOST_BYTES ? 1 : 0, 0);
        check.end();
    }

    private static void play(LostLetters x) {
        x.letters(4);
        x.word(0, 24, 0x1b1b1b1b1b1bL);
        x.word(1, 24, 0xe4e4e4e4e4e4L);
        for (int i = 0; i < ROUNDS; i++) {
            x.code(1 + i % 16, 1 + 2 * i, 0, 0);
            x.code(16, 64, i, 1);
            x.listed(2, 100000 + i);
            x.edit(3, 2, 0, i % 16, 0);
            x.mend(4, 3);
            x.near(3);
            x.liesIn(4, 0);
            x.common(5, 0, 1);
            x.commons(0, 1);
            x.between(0, 1, i % 2);
            x.by(0, 6, i % 2);
            x.trace(6);
            x.sources(6);
            x.best(7, 6);
            x.line(10, 10, 10);
            x.send(8, 2);
        }
    }
}
