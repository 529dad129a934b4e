import com.sun.management.ThreadMXBean;
import java.lang.management.ManagementFactory;

/** All calls of a run share one room: the dearest ones make next to nothing beyond the object itself. */
public final class RoomTest {
    /** With the three calls ahead of them some 500: an object is used for at most 512. */
    private static final int ROUNDS = 31;
    /** A code's table grows at most to some 15360 numbers, by doubling: twice that in all, by four bytes. */
    private static final long MOST_BYTES = 160_000;
    /** Some 3000 numbers, half of them longs, and some forty objects. */
    private static final long MOST_OF_A_SMALL_ONE = 20_000;
    private static final ThreadMXBean THREADS = (ThreadMXBean) ManagementFactory.getThreadMXBean();
    private static final Check check = new Check("RoomTest");

    public static void main(String[] args) {
        allCalls(new LostLetters());
        greaterAndGreaterCodes(new LostLetters());
        small();
        LostLetters x = new LostLetters();
        LostLetters y = new LostLetters();
        long before = made();
        allCalls(x);
        atMost("all calls", made() - before, MOST_BYTES);
        before = made();
        greaterAndGreaterCodes(y);
        atMost("greater and greater codes", made() - before, MOST_BYTES);
        before = made();
        small();
        atMost("a new object with a small code", made() - before, MOST_OF_A_SMALL_ONE);
        check.end();
    }

    private static long made() {
        return THREADS.getThreadAllocatedBytes(Thread.currentThread().getId());
    }

    private static void atMost(String what, long bytes, long most) {
        check.due(what + ": more than " + most + " bytes (" + bytes + ")", bytes > most ? 1 : 0, 0);
    }

    private static void small() {
        LostLetters x = new LostLetters();
        x.letters(4);
        x.code(4, 4, 1, 1);
    }

    /** Each needs a little more than the one before it, up to the greatest. */
    private static void greaterAndGreaterCodes(LostLetters x) {
        x.letters(4);
        for (int n = 2; n <= 16; n++) {
            for (int m = n * 4 - 6; m < n * 4; m++) {
                x.code(n, m, 0, 0);
            }
        }
        x.code(16, 64, 0, 0);
    }

    private static void allCalls(LostLetters x) {
        x.letters(4);
        x.word(0, 24, 0x1b1b1b1b1b1bL);
        x.word(1, 24, 0xe4e4e4e4e4e4L);
        for (int i = 0; i < ROUNDS; i++) {
            x.code(1 + i % 16, 1 + 2 * i, 0, 0);
            x.code(16, 64, i, 1);
            x.listed(2, 100000 + i);
            x.edit(3, 2, 0, i % 16, 0);
            x.mend(4, 3);
            x.near(3);
            x.liesIn(4, 0);
            x.common(5, 0, 1);
            x.commons(0, 1);
            x.between(0, 1, i % 2);
            x.by(0, 6, i % 2);
            x.trace(6);
            x.sources(6);
            x.best(7, 6);
            x.line(10, 10, 10);
            x.send(8, 2);
        }
    }
}
