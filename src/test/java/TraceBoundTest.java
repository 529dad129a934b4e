/** The document's sentences on TRACES, SOURCES and THE BEST, and promises 17 to 20: a test for each with a bound. */
public final class TraceBoundTest {
    private static final int BAD = Sentence.BAD, FULL = Sentence.FULL, NONE = Sentence.NONE;
    private static final int LEAST = Sentence.LEAST, MOST = Sentence.MOST;
    private static final String ZEROS = Sentence.ZEROS, ONES = Sentence.ONES;
    private static final int[] MOST_OF_SOURCES = {12, 7, 6};
    private static final int[] MOST_SOURCES = {4096, 2187, 4096};
    private static final Check check = new Check("TraceBoundTest");

    public static void main(String[] args) {
        eightAtMost();
        fullAgain();
        traceOfAnyLength();
        traceStays();
        noTraces();
        for (int q = 2; q <= 4; q++) {
            sourcesOfN(q);
            bestOfN(q);
            sourcesWithoutTraces(q);
            sourcesOfOneTrace(q);
            bestWithoutTraces(q);
        }
        sourcesOfEight();
        traceTooLong();
        traceTooLongBehindAnother();
        noSource();
        bestFirstInOrder();
        bestIntoTraced();
        productAtTheBound();
        productBelowTheBound();
        productAboveTheBound();
        productFarAboveTheBound();
        check.end();
    }

    private static Sentence says(String text) {
        return new Sentence(check, text);
    }

    private static void eightAtMost() {
        Sentence d = says("TRACES, 8 at most").put(0, "01").due(0, "count", 1);
        for (int k = 1; k <= 8; k++) {
            d.due(k, "trace", 0).due(k, "count", 1);
        }
        for (int s = 0; s <= 11; s++) {
            d.due(FULL, "trace", s).due(8, "count", 1);
        }
        d.due(1, "sources", 2).due(8, "noTraces").due(1, "trace", 11);
    }

    private static void fullAgain() {
        Sentence d = says("TRACES, 8 at most: again when all have gone");
        for (int k = 1; k <= 8; k++) {
            d.due(k, "trace", 0);
        }
        d.due(FULL, "trace", 0).letters(3).due(0, "count", 1);
        for (int k = 1; k <= 8; k++) {
            d.due(k, "trace", k);
        }
        d.due(FULL, "trace", 0).due(8, "noTraces").due(0, "count", 1);
        for (int k = 1; k <= 8; k++) {
            d.due(k, "trace", k);
        }
        d.due(FULL, "trace", 0).due(BAD, "letters", 5).due(FULL, "trace", 0);
    }

    private static void traceOfAnyLength() {
        Sentence d = says("A TRACE is the WORD of a REGISTER: the empty one, one of 24").put(1, ZEROS).put(2, "1");
        d.due(1, "trace", 0).due(8, "sources", 3).due(2, "trace", 2).due(7, "sources", 3).due(3, "trace", 1);
        d.due(0, "sources", 12).due(NONE, "best", 3, 12).due(3, "noTraces").due(8, "sources", 3);
    }

    private static void traceStays() {
        Sentence d = says("A TRACE is the WORD of a REGISTER: what that becomes later is no TRACE").put(0, "000");
        d.due(1, "trace", 0).put(0, "1").due(1, "sources", 3).put(0, "").due(1, "sources", 3).put(0, ONES);
        d.due(1, "sources", 3).due(3, "best", 0, 3).dueRow(0, "000").due(1, "count", 1);
    }

    private static void noTraces() {
        Sentence d = says("All TRACES go: how many there were").due(0, "noTraces").put(0, "01");
        for (int most = 1; most <= 8; most++) {
            for (int k = 1; k <= most; k++) {
                d.due(k, "trace", 0);
            }
            d.due(most, "noTraces").due(0, "count", 1).due(4, "sources", 2).due(0, "noTraces");
        }
        d.dueRow(0, "01");
    }

    private static void sourcesOfN(int q) {
        Sentence d = says("SOURCES of n (1 to 12, q to the n 4096 at most), q " + q).letters(q);
        int most = MOST_OF_SOURCES[q - 2];
        d.due(q, "sources", 1).due(MOST_SOURCES[q - 2], "sources", most);
        int[] none = {0, -1, most + 1, most + 2, 13, 16, 24, 32, 64, LEAST, MOST};
        for (int n : none) {
            d.due(BAD, "sources", n);
        }
        d.put(0, "01").due(1, "trace", 0).due(0, "sources", 1).due(1, "sources", 2);
        for (int n : none) {
            d.due(BAD, "sources", n);
        }
        d.rich(q).due(BAD, "sources", most + 1).due(BAD, "sources", 0);
    }

    private static void bestOfN(int q) {
        Sentence d = says("THE BEST of n: BAD, q " + q).rich(q);
        int most = MOST_OF_SOURCES[q - 2];
        int[] none = {0, -1, most + 1, most + 2, 13, 16, 24, 32, 64, LEAST, MOST};
        for (int n : none) {
            d.due(BAD, "best", 0, n).due(BAD, "best", 11, n);
        }
        d.due(most, "best", 0, most).due(most, "at", 0, -1).due(NONE, "best", 0, 1).due(2, "noTraces");
        d.due(1, "best", 0, 1).dueRow(0, "0").due(most, "best", 11, most).due(BAD, "best", 11, most + 1);
    }

    private static void sourcesWithoutTraces(int q) {
        Sentence d = says("of which all TRACES are PARTS: no TRACES, and the empty one, q " + q).letters(q);
        int all = 1;
        for (int n = 1; n <= MOST_OF_SOURCES[q - 2]; n++) {
            all *= q;
            d.due(all, "sources", n).due(1, "trace", 0).due(all, "sources", n).due(1, "noTraces");
        }
    }

    /** A word of n letters has n + 1 times q - 1, and 1, words of one letter more around it. */
    private static void sourcesOfOneTrace(int q) {
        int most = MOST_OF_SOURCES[q - 2];
        for (int n = 1; n <= most; n++) {
            Sentence d = says("of which all TRACES are PARTS: one of n LETTERS, q " + q).letters(q);
            d.put(0, ONES.substring(24 - n)).due(1, "trace", 0).due(1, "sources", n);
            d.due(n, "best", 1, n).dueRow(1, ONES.substring(24 - n));
            if (n > 1) {
                d.due(0, "sources", n - 1).due(NONE, "best", 1, n - 1);
            }
            d.due(n < most ? 1 + (n + 1) * (q - 1) : BAD, "sources", n + 1);
        }
    }

    private static void bestWithoutTraces(int q) {
        Sentence d = says("THE BEST: of no TRACES and of the empty one the first in order, q " + q).letters(q);
        int most = MOST_OF_SOURCES[q - 2];
        d.put(1, ONES).due(most, "best", 1, most).dueRow(1, ZEROS.substring(24 - most));
        d.due(1, "trace", 0).put(1, ONES).due(most, "best", 1, most).dueRow(1, ZEROS.substring(24 - most));
        d.due(1, "best", 1, 1).dueRow(1, "0");
    }

    private static void sourcesOfEight() {
        Sentence d = says("of which all TRACES are PARTS: 8 of them").letters(2);
        String[] rows = {"000", "001", "010", "011", "100", "101", "110", "111"};
        for (int k = 0; k < 8; k++) {
            d.put(0, rows[k]).due(k + 1, "trace", 0);
            d.due(holdAll(4, rows, k + 1), "sources", 4).due(holdAll(6, rows, k + 1), "sources", 6);
        }
        d.due(0, "sources", 4).due(NONE, "best", 1, 4).due(NONE, "best", 1, 5).due(6, "best", 1, 6);
    }

    private static int holdAll(int n, String[] rows, int traces) {
        int all = 0;
        for (int w = 0; w < 1 << n; w++) {
            boolean holds = true;
            for (int j = 0; j < traces; j++) {
                holds = holds && lies(rows[j], w, n);
            }
            all += holds ? 1 : 0;
        }
        return all;
    }

    private static boolean lies(String row, int w, int n) {
        int k = 0;
        for (int i = 0; i < n && k < row.length(); i++) {
            if (row.charAt(k) - '0' == (w >> i & 1)) {
                k++;
            }
        }
        return k == row.length();
    }

    private static void traceTooLong() {
        for (int length = 12; length <= 24; length++) {
            Sentence d = says("a TRACE of " + length + " has no SOURCE above 12").put(0, ZEROS.substring(24 - length));
            d.due(1, "trace", 0).due(length == 12 ? 1 : 0, "sources", 12).due(length == 12 ? 12 : NONE, "best", 1, 12);
            d.due(0, "sources", 1).due(NONE, "best", 0, 1).due(BAD, "sources", 13).due(2, "trace", 11);
            d.due(length == 12 ? 1 : 0, "sources", 12);
        }
    }

    /** What an earlier search has left behind must not be taken for a part of the long trace. */
    private static void traceTooLongBehindAnother() {
        for (int length = 13; length <= 24; length++) {
            Sentence d = says("a TRACE of " + length + " has no SOURCE, whatever was a TRACE before").put(0, ZEROS);
            for (int k = 1; k <= 8; k++) {
                d.put(1, ZEROS.substring(12 + k % 2)).due(k, "trace", 1);
            }
            d.due(1, "sources", 12).due(8, "noTraces").put(0, ZEROS.substring(24 - length)).due(1, "trace", 0);
            d.due(0, "sources", 12).due(NONE, "best", 1, 12).due(0, "sources", 1);
            d.due(1, "noTraces").put(1, ZEROS.substring(13));
            for (int k = 1; k <= 8; k++) {
                d.due(k, "trace", 1);
            }
            d.due(13, "sources", 12).due(8, "noTraces").due(1, "trace", 0).due(0, "sources", 12);
            d.due(NONE, "best", 1, 12).due(1, "noTraces").due(4096, "sources", 12);
        }
    }

    private static void noSource() {
        Sentence d = says("NONE: there is no SOURCE").rich(2).put(0, "01").put(1, "10").due(2, "noTraces");
        d.due(1, "trace", 0).due(2, "trace", 1).due(0, "sources", 2).due(0, "sources", 1).due(2, "sources", 3);
        for (int s = 0; s <= 11; s++) {
            d.due(NONE, "best", s, 2).due(NONE, "best", s, 1);
        }
        d.due(3, "best", 2, 3).dueRow(2, "010");
    }

    private static void bestFirstInOrder() {
        Sentence d = says("of several the first in order").letters(4).put(0, "3").put(1, "12");
        d.due(1, "trace", 0).due(1, "best", 5, 1).dueRow(5, "3").due(2, "best", 5, 2).dueRow(5, "33");
        d.due(2, "trace", 1).due(3, "best", 5, 3).dueRow(5, "123").due(4, "best", 5, 4).dueRow(5, "1123");
        d.due(2, "noTraces").due(1, "trace", 1).due(3, "best", 5, 3).dueRow(5, "112").due(5, "best", 5, 5);
        d.dueRow(5, "11122").due(4, "best", 5, 4).dueRow(5, "1122");
    }

    private static void bestIntoTraced() {
        Sentence d = says("REGISTER s becomes THE BEST: any s").put(0, "01").due(1, "trace", 0);
        for (int s = 0; s <= 11; s++) {
            d.due(3, "best", s, 3).dueRow(s, "001");
        }
        d.due(1, "count", 1).due(1, "sources", 2);
    }

    private static Sentence traced(String text, String... rows) {
        Sentence d = says(text);
        for (int k = 0; k < rows.length; k++) {
            d.put(0, rows[k]).due(k + 1, "trace", 0);
        }
        return d;
    }

    /** 1111100000: 100 to the seventh, by 10, is the bound itself; 1111110000 has 120 to the seventh, by 15. */
    private static void productAtTheBound() {
        Sentence d = traced("a product above 1000000000000000 counts as that: just that",
                "11100", "11100", "11100", "11100", "11100", "11100", "11100", "11");
        d.due(10, "best", 1, 10).dueRow(1, "1111100000");
        d = traced("a product above 1000000000000000 counts as that: one TRACE less, all are below it",
                "11100", "11100", "11100", "11100", "11100", "11100", "11");
        d.due(10, "best", 1, 10).dueRow(1, "1111110000");
    }

    /** 999959385600000 comes first, then 1933614542475000, then greater ones. */
    private static void productBelowTheBound() {
        Sentence d = traced("a product above 1000000000000000 counts as that: one just below",
                "10", "111", "11", "11111", "11111", "11", "11", "111");
        d.due(12, "best", 1, 12).dueRow(1, "110111111111");
    }

    /** 1000045193986048 comes first, then greater ones. */
    private static void productAboveTheBound() {
        Sentence d = traced("a product above 1000000000000000 counts as that: one just above",
                "111", "01011", "01011", "111", "111", "111", "111", "01011");
        d.due(12, "best", 1, 12).dueRow(1, "001011011111");
    }

    /** 924 to the eighth is far beyond a long; 84 to the eighth is above the bound, 28 to the eighth is not. */
    private static void productFarAboveTheBound() {
        String[] rows = {"111111", "111111", "111111", "111111", "111111", "111111", "111111", "111111"};
        Sentence d = traced("a product above 1000000000000000 counts as that: beyond a long", rows);
        d.due(12, "best", 1, 12).dueRow(1, "000111111111").due(8, "best", 1, 8).dueRow(1, "11111111");
    }
}
