import java.math.BigInteger;

/** The document's sentences on THE LINE and SEED, and its promises 21 to 24: a test for each that has a bound. */
public final class LineBoundTest {
    private static final int BAD = Sentence.BAD, FAR = Sentence.FAR;
    private static final int LEAST = Sentence.LEAST, MOST = Sentence.MOST;
    private static final String ZEROS = Sentence.ZEROS, ONES = Sentence.ONES;
    private static final BigInteger MODULUS = BigInteger.TWO.pow(48);
    private static final BigInteger FACTOR = BigInteger.valueOf(25214903917L);
    private static final BigInteger ADDEND = BigInteger.valueOf(11);
    private static final Check check = new Check("LineBoundTest");

    public static void main(String[] args) {
        togetherUpToSixtyFour();
        togetherAboveSixtyFour();
        noneBelowZero();
        noneByWrappingRound();
        lineStaysAlone();
        for (int q = 2; q <= 4; q++) {
            for (int v = 0; v < 64; v++) {
                belowLosses(q, v);
                belowLossesAndGains(q, v);
                belowAllThree(q, v);
                cut(q, v);
            }
            turnedRound(q);
        }
        seedZeroOrAbove();
        seedModulo();
        seedGoesOn();
        seedOfTheEmpty();
        farByTwentyFive();
        farByOneGain();
        gainMadeUpForByLoss();
        seedStays();
        sendOfTwentyFour();
        sendInPlace();
        countOfWhat();
        countOfMost();
        countOfCode();
        check.end();
    }

    private static Sentence says(String text) {
        return new Sentence(check, text);
    }

    /** The SEED that the first LETTER turns to the one that is asked for. */
    private static long seedAhead(BigInteger next) {
        return next.subtract(ADDEND).multiply(FACTOR.modInverse(MODULUS)).mod(MODULUS).longValueExact();
    }

    private static long leastSeedFor(int v) {
        return seedAhead(BigInteger.valueOf(v).shiftLeft(42));
    }

    private static long mostSeedFor(int v) {
        return seedAhead(BigInteger.valueOf(v + 1).shiftLeft(42).subtract(BigInteger.ONE));
    }

    private static void togetherUpToSixtyFour() {
        int[][] lines = {{0, 0, 0}, {64, 0, 0}, {0, 64, 0}, {0, 0, 64}, {63, 1, 0}, {0, 63, 1}, {1, 0, 63},
                {21, 21, 22}, {22, 20, 22}, {1, 1, 1}, {32, 32, 0}, {0, 32, 32}};
        for (int[] line : lines) {
            says("losses, gains, turns, by 64 (0 to 64 together)").due(0, "line", line[0], line[1], line[2]);
        }
    }

    private static void togetherAboveSixtyFour() {
        int[][] lines = {{65, 0, 0}, {0, 65, 0}, {0, 0, 65}, {64, 1, 0}, {0, 64, 1}, {1, 0, 64}, {22, 21, 22},
                {64, 64, 64}, {33, 32, 0}, {0, 33, 32}, {32, 0, 33}, {MOST, 0, 0}, {0, MOST, 0}, {0, 0, MOST}};
        Sentence d = says("BAD (together above 64)").rich(4);
        for (int[] line : lines) {
            d.due(BAD, "line", line[0], line[1], line[2]);
        }
    }

    private static void noneBelowZero() {
        int[][] lines = {{-1, 0, 0}, {0, -1, 0}, {0, 0, -1}, {-1, 64, 1}, {65, -1, 0}, {0, 65, -1}, {-1, -1, -1},
                {LEAST, 0, 0}, {0, LEAST, 0}, {0, 0, LEAST}, {LEAST, 64, 0}, {-64, 64, 64}};
        Sentence d = says("losses, gains, turns: none below 0").rich(3);
        for (int[] line : lines) {
            d.due(BAD, "line", line[0], line[1], line[2]);
        }
    }

    private static void noneByWrappingRound() {
        int[][] lines = {{MOST, MOST, 2}, {MOST, 2, MOST}, {2, MOST, MOST}, {LEAST, LEAST, 0}, {MOST, 1, LEAST},
                {LEAST, MOST, 1}, {1 << 30, 1 << 30, LEAST}, {MOST, LEAST, 10}, {MOST, MOST, MOST},
                {LEAST, LEAST, LEAST}};
        Sentence d = says("0 to 64 together: a sum that wraps round").rich(2);
        for (int[] line : lines) {
            d.due(BAD, "line", line[0], line[1], line[2]);
        }
    }

    private static void lineStaysAlone() {
        Sentence d = says("THE LINE. Answers 0: SEED and all else stay").rich(2).due(0, "line", 0, 0, 64);
        d.due(2, "count", 0).due(2, "count", 1).due(5, "count", 2).dueRow(0, "0110").due(4, "send", 5, 0);
        d.dueRow(5, "1001").due(0, "line", 0, 0, 0).due(4, "send", 5, 0).dueRow(5, "0110");
    }

    /** One letter goes over the line from the least seed that gives v, and from the greatest. */
    private static void sent(String text, int q, int v, int[] line, String letter, String want) {
        long[] seeds = {leastSeedFor(v), mostSeedFor(v)};
        for (long seed : seeds) {
            LostLetters x = new LostLetters();
            x.letters(q);
            Check.put(x, 0, letter);
            x.line(line[0], line[1], line[2]);
            x.seed(seed);
            String call = "\"" + text + "\": q " + q + ", v " + v;
            check.due(call, x.send(1, 0), want.length());
            check.due(call, Check.read(x, 1), want);
        }
    }

    private static void belowLosses(int q, int v) {
        String text = "below losses: it is lost";
        sent(text, q, v, new int[] {v + 1, 0, 0}, "1", "");
        sent(text, q, v, new int[] {v, 0, 0}, "1", "1");
        sent(text, q, v, new int[] {v + 1, 63 - v, 0}, "1", "");
        sent(text, q, v, new int[] {v + 1, 0, 63 - v}, "1", "");
    }

    private static void belowLossesAndGains(int q, int v) {
        String text = "else below losses and gains: a LETTER, v modulo q, comes ahead of it";
        String gained = v % q + "1";
        sent(text, q, v, new int[] {0, v + 1, 0}, "1", gained);
        sent(text, q, v, new int[] {0, v, 0}, "1", "1");
        sent(text, q, v, new int[] {v, 1, 0}, "1", gained);
        sent(text, q, v, new int[] {v, 1, 63 - v}, "1", gained);
        sent(text, q, v, new int[] {v / 2, v - v / 2, 0}, "1", "1");
        sent(text, q, v, new int[] {v / 2, v - v / 2 + 1, 0}, "1", gained);
    }

    private static void belowAllThree(int q, int v) {
        String text = "else below all three: it is turned; else as it was";
        String turned = "" + (1 + v % (q - 1) + 1) % q;
        sent(text, q, v, new int[] {0, 0, v + 1}, "1", turned);
        sent(text, q, v, new int[] {0, 0, v}, "1", "1");
        sent(text, q, v, new int[] {v, 0, 1}, "1", turned);
        sent(text, q, v, new int[] {0, v, 1}, "1", turned);
        sent(text, q, v, new int[] {v / 2, 0, v - v / 2}, "1", "1");
        sent(text, q, v, new int[] {v / 3, v / 3, v - 2 * (v / 3)}, "1", "1");
        sent(text, q, v, new int[] {v / 3, v / 3, v - 2 * (v / 3) + 1}, "1", turned);
        sent(text, q, v, new int[] {0, 0, 0}, "1", "1");
    }

    private static void cut(int q, int v) {
        String text = "v is that by 2 to the 42nd, cut: 0 to 63";
        sent(text, q, v, new int[] {64, 0, 0}, "0", "");
        sent(text, q, v, new int[] {0, 64, 0}, "0", v % q + "0");
        sent(text, q, v, new int[] {0, 0, 64}, "0", "" + (v % (q - 1) + 1));
    }

    private static void turnedRound(int q) {
        String text = "the one (v modulo (q - 1)) and 1 further on, modulo q";
        for (int l = 0; l < q; l++) {
            for (int v = 0; v < 12; v++) {
                String turned = "" + (l + v % (q - 1) + 1) % q;
                sent(text, q, v, new int[] {0, 0, 64}, "" + l, turned);
                check.due("\"to another\": " + l + " by " + v, turned.equals("" + l) ? 1 : 0, 0);
            }
        }
    }

    private static void seedZeroOrAbove() {
        Sentence d = says("SEED (0 or above): 0. BAD.").rich(2);
        long[] none = {-1, -2, LEAST, -(1L << 47), -(1L << 48), Long.MIN_VALUE, Long.MIN_VALUE + 1};
        for (long v : none) {
            d.due(BAD, "seed", v);
        }
        long[] some = {0, 1, MOST, 1L << 31, (1L << 48) - 1, 1L << 48, (1L << 48) + 1, Long.MAX_VALUE};
        for (long v : some) {
            d.due(0, "seed", v);
            for (long w : none) {
                d.due(BAD, "seed", w);
            }
        }
    }

    /** From 0 on v is 0, 0, 2, 11, 23, 5; from 1 on 0, 46, 55, 24, 50, 23. */
    private static void seedModulo() {
        long[] rounds = {0, 1L << 48, 2L << 48, 1L << 62, 32767L << 48};
        for (long round : rounds) {
            Sentence d = says("SEED becomes .. modulo 2 to the 48th").put(0, "000000").due(0, "line", 0, 0, 11);
            d.due(0, "seed", round).due(6, "send", 1, 0).dueRow(1, "111001");
            d.due(0, "line", 0, 0, 47).due(0, "seed", round + 1).due(6, "send", 1, 0).dueRow(1, "110101");
        }
        Sentence d = says("SEED 2 to the 48th less 1 and the greatest long").put(0, "000000");
        d.due(0, "line", 0, 0, 11).due(0, "seed", (1L << 48) - 1).due(6, "send", 1, 0);
        String sent = seedsRow((1L << 48) - 1, 6, 11);
        d.dueRow(1, sent).due(0, "seed", Long.MAX_VALUE).due(6, "send", 2, 0).dueRow(2, sent);
    }

    /** What zeros become over a line that only turns. */
    private static String seedsRow(long seed, int letters, int turns) {
        BigInteger now = BigInteger.valueOf(seed);
        StringBuilder row = new StringBuilder();
        for (int i = 0; i < letters; i++) {
            now = now.multiply(FACTOR).add(ADDEND).mod(MODULUS);
            row.append(now.shiftRight(42).intValueExact() < turns ? 1 : 0);
        }
        return row.toString();
    }

    private static void seedGoesOn() {
        Sentence d = says("for each LETTER of a WORD SEED becomes: over a line that does nothing, too");
        d.put(0, "00").put(1, "0000").due(2, "send", 2, 0).due(0, "line", 0, 0, 51).due(4, "send", 2, 1);
        d.dueRow(2, "0111");
        d = says("for each LETTER of a WORD SEED becomes: of one that is lost, too").put(0, "00").put(1, "0000");
        d.due(0, "line", 64, 0, 0).due(0, "send", 2, 0).due(0, "line", 0, 0, 51).due(4, "send", 2, 1).dueRow(2, "0111");
        d = says("for each LETTER of a WORD SEED becomes: once for a gain").put(0, "00").put(1, "0000");
        d.due(0, "line", 0, 64, 0).due(4, "send", 2, 0).due(0, "line", 0, 0, 51).due(4, "send", 2, 1).dueRow(2, "0111");
    }

    private static void seedOfTheEmpty() {
        Sentence d = says("for each LETTER of a WORD: of the empty one SEED stays").put(0, "000000").put(5, "1");
        d.due(0, "line", 0, 64, 0).due(0, "send", 5, 3).dueRow(5, "").due(0, "send", 3, 3).due(0, "line", 0, 0, 47);
        d.due(6, "send", 1, 0).dueRow(1, "110101");
    }

    private static void farByTwentyFive() {
        Sentence d = says("FAR: a WORD would have more than 24, by send").due(0, "line", 0, 64, 0).put(5, "01");
        d.put(0, ZEROS.substring(12)).due(24, "send", 1, 0).due(24, "at", 1, -1);
        for (int n = 13; n <= 24; n++) {
            d.put(0, ZEROS.substring(24 - n)).due(FAR, "send", 5, 0).due(FAR, "send", 0, 0);
        }
        d.dueRow(5, "01").put(0, ZEROS.substring(12)).due(24, "send", 0, 0).due(FAR, "send", 0, 0);
    }

    /** From the first seed on only the first LETTER of 24 has v 0, from the other only the last. */
    private static void farByOneGain() {
        Sentence d = says("FAR: a WORD would have 25").put(0, ONES).put(1, ONES.substring(1)).put(5, "01");
        d.due(0, "line", 0, 1, 0).due(0, "seed", 1).due(FAR, "send", 5, 0).due(24, "send", 6, 1);
        d.dueRow(6, "0" + ONES.substring(1)).due(0, "seed", 32527466582107L).due(FAR, "send", 5, 0);
        d.due(23, "send", 6, 1).dueRow(6, ONES.substring(1)).dueRow(5, "01");
    }

    /** Only the first and the last of 24 LETTERS have v 0 or 1, in the third row one between them has v 1, too. */
    private static void gainMadeUpForByLoss() {
        Sentence d = says("FAR: a WORD would have more than 24: not with a loss for a gain").letters(3);
        d.put(0, "2" + ONES.substring(1)).due(0, "line", 1, 1, 0).due(0, "seed", 69738716350744L).due(24, "send", 1, 0);
        d.dueRow(1, "12" + ONES.substring(2)).due(0, "seed", 98207677757372L).due(24, "send", 1, 0).dueRow(1, ONES);
        d.due(0, "seed", 202797613102755L).due(FAR, "send", 1, 0).dueRow(1, ONES);
    }

    private static void seedStays() {
        Sentence d = says("FAR (SEED stays, too)").put(0, ZEROS).put(1, "000000").due(0, "line", 0, 64, 0);
        d.due(FAR, "send", 2, 0).due(FAR, "send", 0, 0).due(0, "line", 0, 0, 47);
        d.due(6, "send", 3, 1).dueRow(3, "110101");
        d = says("BAD: SEED stays").put(1, "000000").due(0, "line", 0, 0, 47);
        d.due(BAD, "send", 12, 1).due(BAD, "send", -1, 1).due(BAD, "send", 1, 12).due(BAD, "send", 1, -1);
        d.due(6, "send", 3, 1).dueRow(3, "110101");
    }

    private static void sendOfTwentyFour() {
        Sentence d = says("for each LETTER of a WORD, from the first on: 24 of them").put(0, ZEROS);
        d.due(0, "line", 0, 0, 24).due(24, "send", 1, 0).dueRow(1, seedsRow(1, 24, 24));
        d.due(0, "line", 24, 0, 0).due(0, "seed", 1).due(16, "send", 1, 0).due(0, "line", 64, 0, 0);
        d.due(0, "send", 1, 0).dueRow(1, "").due(0, "line", 0, 0, 64).due(24, "send", 1, 0).dueRow(1, ONES);
    }

    private static void sendInPlace() {
        Sentence d = says("REGISTER s becomes what comes of t over THE LINE: s may be t").put(0, "000000").put(1, "11");
        d.due(0, "line", 0, 0, 47).due(6, "send", 0, 0).dueRow(0, "110101").dueRow(1, "11");
        d.due(0, "line", 64, 0, 0).due(0, "send", 0, 0).dueRow(0, "").due(0, "send", 1, 0).dueRow(1, "");
    }

    private static void countOfWhat() {
        Sentence d = says("How many: 0 q, 1 TRACES, 2 n of THE CODE, 3 LETTERS of all REGISTERS. BAD.").rich(3);
        d.due(3, "count", 0).due(2, "count", 1).due(5, "count", 2).due(4 + 3 + 24 + 23 + 6 + 2, "count", 3);
        int[] none = {-1, 4, 5, LEAST, MOST};
        for (int what : none) {
            d.due(BAD, "count", what);
        }
    }

    private static void countOfMost() {
        Sentence d = says("LETTERS of all REGISTERS: none to 288").due(0, "count", 3);
        for (int s = 0; s <= 11; s++) {
            d.put(s, ONES).due(24 * (s + 1), "count", 3);
        }
        d.due(FAR, "edit", 0, 11, 1, 0, 0).due(288, "count", 3).put(11, "").due(264, "count", 3);
    }

    private static void countOfCode() {
        Sentence d = says("2 n of THE CODE (0: there is none)").due(0, "count", 2).due(BAD, "code", 1, 1, 1, 0);
        d.due(0, "count", 2).due(2, "code", 1, 1, 0, 0).due(1, "count", 2).due(1 << 16, "code", 16, 1, 0, 0);
        d.due(16, "count", 2).due(BAD, "code", 17, 1, 0, 0).due(16, "count", 2).due(0, "code", 2, 64, 63, 0);
        d.due(2, "count", 2).letters(2).due(0, "count", 2);
    }
}
