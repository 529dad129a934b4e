/** The document's sentences on PARTS, and its promises 12 to 16: a test for each that has a bound. */
public final class PartBoundTest {
    private static final int BAD = Sentence.BAD;
    private static final int LEAST = Sentence.LEAST, MOST = Sentence.MOST;
    private static final String ZEROS = Sentence.ZEROS, ONES = Sentence.ONES;
    private static final String BY_TURNS = "010101010101010101010101";
    private static final Check check = new Check("PartBoundTest");

    public static void main(String[] args) {
        liesInOfTheEmpty();
        liesInOfLongAndShort();
        liesInOfTwentyFour();
        commonOfTheEmpty();
        commonOfNothing();
        commonOfAll();
        commonFirstInOrder();
        commonInPlace();
        commonsOfTheEmpty();
        commonsOfAll();
        editsBetween();
        joined();
        whatOfBetween();
        losingNoneToSix();
        losingAllAndMore();
        losingOfTwentyFour();
        gainingNoneToSix();
        gainingBeyondTwentyFour();
        whatOfBy();
        check.end();
    }

    private static Sentence says(String text) {
        return new Sentence(check, text);
    }

    private static void liesInOfTheEmpty() {
        Sentence d = says("LIES IN: how often: the empty WORD").put(1, "0").put(2, ZEROS);
        d.due(1, "liesIn", 0, 0).due(1, "liesIn", 0, 11).due(1, "liesIn", 0, 1).due(1, "liesIn", 0, 2);
        d.due(0, "liesIn", 1, 0).due(0, "liesIn", 2, 0);
    }

    private static void liesInOfLongAndShort() {
        Sentence d = says("LIES IN: a WORD in itself and in a shorter one").put(0, "0110").put(1, "011").put(2, "110");
        d.due(1, "liesIn", 0, 0).due(0, "liesIn", 0, 1).due(1, "liesIn", 1, 0).due(1, "liesIn", 2, 0);
        d.due(0, "liesIn", 1, 2).due(0, "liesIn", 2, 1).put(3, "1").put(4, "10").due(2, "liesIn", 3, 0);
        d.due(2, "liesIn", 4, 0).due(1, "liesIn", 3, 3);
    }

    private static void liesInOfTwentyFour() {
        Sentence d = says("LIES IN: as how many ways to choose the places, of 24").put(0, ZEROS).put(11, BY_TURNS);
        long ways = 1;
        for (int n = 0; n <= 24; n++) {
            d.put(1, ZEROS.substring(0, n)).due(ways, "liesIn", 1, 0).due(n < 24 ? 0 : 1, "liesIn", 0, 1);
            ways = ways * (24 - n) / (n + 1);
        }
        d.put(2, BY_TURNS.substring(1)).due(1, "liesIn", 2, 11).put(2, "01").due(78, "liesIn", 2, 11);
        d.put(2, "10").due(66, "liesIn", 2, 11).put(2, ONES.substring(12)).due(1, "liesIn", 2, 11);
        d.put(2, ONES.substring(11)).due(0, "liesIn", 2, 11);
    }

    private static void commonOfTheEmpty() {
        Sentence d = says("COMMON of two: of the empty WORD").put(1, "01").put(2, ZEROS).put(5, "111");
        d.due(0, "common", 5, 0, 1).dueRow(5, "").put(5, "111").due(0, "common", 5, 2, 0).dueRow(5, "");
        d.put(5, "111").due(0, "common", 5, 0, 0).dueRow(5, "").due(0, "common", 1, 1, 0).dueRow(1, "");
    }

    private static void commonOfNothing() {
        Sentence d = says("COMMON of two: nothing but the empty WORD").put(0, ZEROS).put(1, ONES).put(5, "10");
        d.due(0, "common", 5, 0, 1).dueRow(5, "").due(1, "commons", 0, 1).due(48, "between", 0, 1, 1);
        d.put(5, "10").put(2, "0").put(3, "1").due(0, "common", 5, 2, 3).dueRow(5, "").due(1, "commons", 2, 3);
    }

    private static void commonOfAll() {
        Sentence d = says("the longest that is a PART of both, its length: of 24").put(0, BY_TURNS).put(1, ZEROS);
        d.due(24, "common", 2, 0, 0).dueRow(2, BY_TURNS).due(12, "common", 2, 0, 1).dueRow(2, ZEROS.substring(12));
        d.put(3, BY_TURNS.substring(1) + "0").due(23, "common", 2, 0, 3).dueRow(2, BY_TURNS.substring(0, 23));
        d.put(4, BY_TURNS.substring(1)).due(23, "common", 2, 4, 0).dueRow(2, BY_TURNS.substring(1));
    }

    private static void commonFirstInOrder() {
        Sentence d = says("of several the first in order (the lower LETTER first)").letters(4);
        d.put(0, "3210").put(1, "0123").due(1, "common", 2, 0, 1).dueRow(2, "0").due(4, "commons", 0, 1);
        d.put(0, "321").put(1, "123").due(1, "common", 2, 0, 1).dueRow(2, "1").due(3, "commons", 0, 1);
        d.put(0, "32").put(1, "23").due(1, "common", 2, 1, 0).dueRow(2, "2").due(2, "commons", 1, 0);
        d.put(0, "1032").put(1, "0123").due(2, "common", 2, 0, 1).dueRow(2, "02").due(4, "commons", 0, 1);
        d.put(0, "1100").put(1, "0011").due(2, "common", 2, 0, 1).dueRow(2, "00").due(2, "commons", 0, 1);
        d.put(0, "01").put(1, "1").due(1, "common", 2, 0, 1).dueRow(2, "1").due(1, "commons", 0, 1);
    }

    private static void commonInPlace() {
        Sentence d = says("REGISTER s becomes COMMON of t and u: s may be t or u").put(0, "0110").put(1, "1001");
        d.due(2, "common", 0, 0, 1).dueRow(0, "00").dueRow(1, "1001").put(0, "0110");
        d.due(2, "common", 1, 0, 1).dueRow(1, "00").dueRow(0, "0110").due(4, "common", 0, 0, 0).dueRow(0, "0110");
    }

    private static void commonsOfTheEmpty() {
        Sentence d = says("How many WORDS are as long PARTS of both: of the empty WORD").put(1, "0").put(2, ZEROS);
        d.due(1, "commons", 0, 0).due(1, "commons", 0, 11).due(1, "commons", 0, 1).due(1, "commons", 1, 0);
        d.due(1, "commons", 0, 2).due(1, "commons", 2, 0).due(1, "commons", 1, 2).due(1, "commons", 1, 1);
    }

    private static void commonsOfAll() {
        Sentence d = says("How many WORDS are as long PARTS of both: of 24").letters(4).put(0, BY_TURNS).put(1, ZEROS);
        d.due(1, "commons", 0, 0).due(1, "commons", 0, 1).put(2, BY_TURNS.substring(1) + "0").due(2, "commons", 0, 2);
        d.put(3, "012").put(4, "210").due(3, "commons", 3, 4);
        d.put(5, "0123".repeat(6)).put(6, "1032".repeat(6)).due(99442, "commons", 5, 6).due(99442, "commons", 6, 5);
        d.due(12, "common", 7, 5, 6).dueRow(7, "010101010102").due(1, "commons", 7, 5);
    }

    private static void editsBetween() {
        Sentence d = says("EDITS between two: the fewest ONE EDITs").letters(3).put(1, "0").put(2, "1").put(3, ZEROS);
        d.put(4, ONES).due(0, "between", 0, 0, 0).due(1, "between", 0, 1, 0).due(1, "between", 1, 0, 0);
        d.due(1, "between", 1, 2, 0).due(0, "between", 1, 1, 0).due(24, "between", 0, 3, 0);
        d.due(24, "between", 3, 0, 0).due(24, "between", 3, 4, 0).due(0, "between", 4, 4, 0);
        d.due(23, "between", 1, 3, 0).due(24, "between", 2, 3, 0);
        d.put(5, BY_TURNS).put(6, BY_TURNS.substring(1) + "0").due(2, "between", 5, 6, 0).due(12, "between", 5, 3, 0);
        d.put(7, "01").put(8, "10").due(2, "between", 7, 8, 0).put(7, "012").put(8, "120").due(2, "between", 7, 8, 0);
    }

    private static void joined() {
        Sentence d = says("JOINED: the least length of a WORD that has both as PARTS").letters(3);
        d.put(1, "0").put(2, "1").put(3, ZEROS).put(4, ONES);
        d.due(0, "between", 0, 0, 1).due(1, "between", 0, 1, 1).due(1, "between", 1, 0, 1);
        d.due(2, "between", 1, 2, 1).due(1, "between", 1, 1, 1).due(24, "between", 0, 3, 1);
        d.due(24, "between", 3, 3, 1).due(48, "between", 3, 4, 1).due(48, "between", 4, 3, 1);
        d.due(24, "between", 1, 3, 1).due(25, "between", 2, 3, 1);
        d.put(5, BY_TURNS).put(6, BY_TURNS.substring(1) + "0").due(25, "between", 5, 6, 1).due(36, "between", 5, 3, 1);
    }

    private static void whatOfBetween() {
        Sentence d = says("EDITS (what = 0), JOINED (1). BAD.").rich(3).due(3, "between", 0, 1, 0);
        d.due(5, "between", 0, 1, 1);
        int[] none = {-1, 2, 3, LEAST, MOST};
        for (int what : none) {
            d.due(BAD, "between", 0, 1, what).due(BAD, "between", 3, 3, what);
        }
    }

    private static void losingNoneToSix() {
        Sentence d = says("BY LOSING s (s 0 to 6)").rich(2).put(5, "010101");
        for (int n = 0; n <= 6; n++) {
            d.due(partsOf("010101", 6 - n), "by", 5, n, 0);
        }
        d.due(1, "by", 5, 0, 0).due(6, "by", 5, 1, 0).due(2, "by", 5, 5, 0).due(1, "by", 5, 6, 0);
        int[] none = {-1, 7, 8, 24, LEAST, MOST};
        for (int n : none) {
            d.due(BAD, "by", 5, n, 0).due(BAD, "by", 2, n, 0).due(BAD, "by", 3, n, 0);
        }
    }

    /** Counted by going through all words of that length. */
    private static int partsOf(String whole, int length) {
        int all = 0;
        for (int w = 0; w < 1 << length; w++) {
            int k = 0;
            for (int i = 0; i < whole.length() && k < length; i++) {
                if (whole.charAt(i) - '0' == (w >> k & 1)) {
                    k++;
                }
            }
            all += k == length ? 1 : 0;
        }
        return all;
    }

    private static void losingAllAndMore() {
        for (int q = 2; q <= 4; q++) {
            Sentence d = says("PARTS with s LETTERS less: all of them, and more than there are, q " + q).letters(q);
            for (int n = 0; n <= 6; n++) {
                d.put(0, BY_TURNS.substring(0, n)).due(1, "by", 0, n, 0).due(1, "by", 0, 0, 0);
                for (int more = n + 1; more <= 6; more++) {
                    d.due(0, "by", 0, more, 0);
                }
            }
        }
    }

    /** A row by turns has more parts than any other of two letters: s and fewer chosen of those that are left. */
    private static void losingOfTwentyFour() {
        Sentence d = says("BY LOSING s: of 24 LETTERS").letters(4);
        d.put(0, ZEROS).put(1, BY_TURNS).put(2, "3".repeat(24));
        for (int n = 0; n <= 6; n++) {
            d.due(1, "by", 0, n, 0).due(1, "by", 2, n, 0).due(byTurnsLosing(24, n), "by", 1, n, 0);
        }
        d.due(24, "by", 1, 1, 0).due(31180, "by", 1, 6, 0).due(BAD, "by", 1, 7, 0);
    }

    private static long byTurnsLosing(int length, int s) {
        long all = 0;
        for (int i = 0; i <= s; i++) {
            all += choose(length - s, i);
        }
        return all;
    }

    private static long choose(int n, int k) {
        long ways = 1;
        for (int i = 0; i < k; i++) {
            ways = ways * (n - i) / (i + 1);
        }
        return ways;
    }

    private static void gainingNoneToSix() {
        for (int q = 2; q <= 4; q++) {
            Sentence d = says("BY GAINING s (s 0 to 6), q " + q).rich(q);
            long all = 1;
            for (int n = 0; n <= 6; n++) {
                d.due(all, "by", 3, n, 1);
                all *= q;
            }
            d.due(1, "by", 0, 0, 1).due(1 + 5 * (q - 1), "by", 0, 1, 1).due(1, "by", 2, 0, 1);
            int[] none = {-1, 7, 8, 24, LEAST, MOST};
            for (int n : none) {
                d.due(BAD, "by", 0, n, 1).due(BAD, "by", 2, n, 1).due(BAD, "by", 3, n, 1);
            }
        }
    }

    /** It only counts: no word of more than 24 letters has to be kept, so it is not FAR. */
    private static void gainingBeyondTwentyFour() {
        for (int q = 2; q <= 4; q++) {
            Sentence d = says("BY GAINING s: of 24 LETTERS, q " + q).letters(q).put(0, ZEROS).put(1, BY_TURNS);
            for (int n = 0; n <= 6; n++) {
                long all = 0;
                long others = 1;
                for (int i = 0; i <= n; i++) {
                    all += choose(24 + n, i) * others;
                    others *= q - 1;
                }
                d.due(all, "by", 0, n, 1).due(all, "by", 1, n, 1);
            }
            d.due(q == 2 ? 768212 : q == 3 ? 43034553 : 469824364, "by", 0, 6, 1).due(BAD, "by", 0, 7, 1);
        }
    }

    private static void whatOfBy() {
        Sentence d = says("BY LOSING n (what = 0), BY GAINING (1). BAD.").rich(2).due(3, "by", 0, 1, 0);
        d.due(6, "by", 0, 1, 1);
        int[] none = {-1, 2, 3, LEAST, MOST};
        for (int what : none) {
            d.due(BAD, "by", 0, 1, what).due(BAD, "by", 3, 0, what).due(BAD, "by", 2, 6, what);
        }
    }
}
