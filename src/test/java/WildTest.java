import java.util.Random;

/** Any numbers in any state: no call throws, and each answers what it may answer. */
public final class WildTest {
    private static final int[] NUMBERS = {
        Integer.MIN_VALUE, -65, -2, -1, 0, 1, 2, 3, 4, 5, 6, 7, 8, 11, 12, 13, 16, 17, 23, 24, 25, 63, 64, 65,
        1 << 30, Integer.MAX_VALUE
    };
    private static final Check check = new Check("WildTest");
    private static final Random random = new Random(7);

    public static void main(String[] args) {
        for (int run = 0; run < 300; run++) {
            LostLetters x = new LostLetters();
            for (int c = 0; c < 512; c++) {
                int kind = random.nextInt(23);
                try {
                    long answer = call(x, kind);
                    check.due("call " + kind + " answered " + answer, answer >= -5 && answer < 1L << 40 ? 1 : 0, 1);
                } catch (RuntimeException e) {
                    check.due("call " + kind + " threw " + e, 1, 0);
                }
            }
        }
        check.end();
    }

    private static int any() {
        return NUMBERS[random.nextInt(NUMBERS.length)];
    }

    private static int register() {
        return random.nextInt(12) == 0 ? any() : random.nextInt(12);
    }

    private static int some(int most) {
        return random.nextInt(6) == 0 ? any() : random.nextInt(most + 1);
    }

    private static long row() {
        return random.nextLong() & 0x555555555555L >>> 2 * random.nextInt(25);
    }

    private static long call(LostLetters x, int kind) {
        int s = register(), t = register(), u = register();
        switch (kind) {
            case 0: return random.nextInt(8) == 0 ? x.letters(some(5)) : 0;
            case 1: return x.word(s, some(24), row());
            case 2: return x.at(s, some(24));
            case 3: return x.edit(s, t, some(2), some(24), some(3));
            case 4: return x.code(some(16), some(64), some(8), some(3));
            case 5: return x.sum(s);
            case 6: return x.isOf(s);
            case 7: return x.listed(s, some(1000));
            case 8: return x.mend(s, t);
            case 9: return x.near(t);
            case 10: return x.liesIn(s, t);
            case 11: return x.common(s, t, u);
            case 12: return x.commons(t, u);
            case 13: return x.between(t, u, some(1));
            case 14: return x.by(t, some(6), some(1));
            case 15: return x.trace(s);
            case 16: return random.nextInt(5) == 0 ? x.noTraces() : 0;
            case 17: return x.sources(some(7));
            case 18: return x.best(s, some(7));
            case 19: return x.line(some(21), some(21), some(21));
            case 20: return x.seed(random.nextLong());
            case 21: return x.send(s, t);
            default: return x.count(some(3));
        }
    }
}
