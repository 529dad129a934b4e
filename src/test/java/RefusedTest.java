/**
 * "BAD: a number is none that is told, there is no such thing. NO: not as things stand. FULL, FAR. Of several the
 * first; nothing changes then.": each number of each call, wrong by itself, in states that have little or much to lose.
 */
public final class RefusedTest {
    private static final int BAD = Sentence.BAD, NO = Sentence.NO, FULL = Sentence.FULL, NONE = Sentence.NONE,
            FAR = Sentence.FAR;
    private static final int LEAST = Sentence.LEAST, MOST = Sentence.MOST;
    private static final long[] NO_REGISTERS = {-1, 12, 13, LEAST, MOST};
    private static final long[] NOT_EITHER = {-1, 2, LEAST, MOST};
    private static final Check check = new Check("RefusedTest");

    public static void main(String[] args) {
        for (int q = 2; q <= 4; q++) {
            wrongNumbers(q, says("BAD: as " + q + " letters were told").letters(q));
            wrongNumbers(q, says("BAD: with " + q + " letters, a CODE, TRACES, a LINE").rich(q));
            wrongNumbers(q, full("BAD: with " + q + " letters, all full", q));
            badBeforeNo(q);
            badBeforeNone(q);
            badBeforeFull(q);
            badBeforeFar(q);
        }
        wrongNumbers(2, says("BAD: a new object"));
        noBeforeNone();
        check.end();
    }

    private static Sentence says(String text) {
        return new Sentence(check, text);
    }

    private static Sentence full(String text, int q) {
        Sentence d = says(text).letters(q);
        for (int k = 1; k <= 8; k++) {
            d.put(0, k % 2 == 0 ? "10" : "01").due(k, "trace", 0);
        }
        for (int s = 0; s <= 11; s++) {
            d.put(s, (s % q + "" + (q - 1)).repeat(12));
        }
        d.due(q == 2 ? 1 << 16 : q == 3 ? 14348907 : 1 << 30, "code", 16, 1, 0, q - 1);
        return d.due(0, "line", 0, 64, 0).due(0, "seed", Long.MAX_VALUE);
    }

    /** All other numbers of the call are as they should be. */
    private static void wrong(Sentence d, String call, long[] right, int place, long... values) {
        for (long value : values) {
            long[] numbers = right.clone();
            numbers[place] = value;
            d.due(BAD, call, numbers);
        }
    }

    private static long[] of(long... numbers) {
        return numbers;
    }

    private static void wrongNumbers(int q, Sentence d) {
        wrong(d, "letters", of(2), 0, 1, 5, 0, -1, LEAST, MOST);
        wrong(d, "word", of(0, 1, 1), 0, NO_REGISTERS);
        wrong(d, "word", of(0, 1, 1), 1, -1, 0, 25, 32, 64, LEAST, MOST);
        wrong(d, "word", of(0, 1, 1), 2, 4, -1, 1L << 32, Long.MIN_VALUE, Long.MAX_VALUE, q < 4 ? q : 5);
        wrong(d, "at", of(0, -1), 0, NO_REGISTERS);
        wrong(d, "at", of(0, -1), 1, -2, LEAST);
        wrong(d, "code", of(2, 3, 1, 1), 0, 0, 17, -1, LEAST, MOST);
        wrong(d, "code", of(2, 3, 1, 1), 1, 0, 65, -1, 1, LEAST, MOST);
        wrong(d, "code", of(2, 3, 1, 1), 2, -1, 3, LEAST, MOST);
        if (q > 2) {
            wrong(d, "code", of(2, 3, 1, 1), 3, -1, q, LEAST, MOST);
        }
        wrongEdits(q, d);
        wrongOfCode(d);
        wrongOfParts(d);
        wrongOfTraces(q, d);
        wrong(d, "line", of(20, 20, 20), 0, -1, 25, LEAST, MOST);
        wrong(d, "line", of(20, 20, 20), 1, -1, 25, LEAST, MOST);
        wrong(d, "line", of(20, 20, 20), 2, -1, 25, LEAST, MOST);
        wrong(d, "seed", of(1), 0, -1, LEAST, Long.MIN_VALUE);
        wrong(d, "send", of(1, 3), 0, NO_REGISTERS);
        wrong(d, "send", of(1, 3), 1, NO_REGISTERS);
        wrong(d, "count", of(0), 0, -1, 4, LEAST, MOST);
    }

    private static void wrongEdits(int q, Sentence d) {
        for (int kind = 0; kind <= 2; kind++) {
            wrong(d, "edit", of(1, 0, kind, 0, 1), 0, NO_REGISTERS);
            wrong(d, "edit", of(1, 0, kind, 0, 1), 1, NO_REGISTERS);
            wrong(d, "edit", of(1, 0, kind, 0, 1), 3, -1, 25, LEAST, MOST);
        }
        wrong(d, "edit", of(1, 0, 1, 0, 1), 2, -1, 3, LEAST, MOST);
        wrong(d, "edit", of(1, 0, 1, 0, 1), 4, -1, q, LEAST, MOST);
        wrong(d, "edit", of(1, 0, 2, 0, 1), 4, -1, q, LEAST, MOST);
    }

    private static void wrongOfCode(Sentence d) {
        wrong(d, "sum", of(0), 0, NO_REGISTERS);
        wrong(d, "isOf", of(0), 0, NO_REGISTERS);
        wrong(d, "listed", of(0, 0), 0, NO_REGISTERS);
        wrong(d, "listed", of(0, 0), 1, -1, LEAST);
        wrong(d, "mend", of(0, 1), 0, NO_REGISTERS);
        wrong(d, "mend", of(0, 1), 1, NO_REGISTERS);
        wrong(d, "near", of(0), 0, NO_REGISTERS);
    }

    private static void wrongOfParts(Sentence d) {
        wrong(d, "liesIn", of(0, 1), 0, NO_REGISTERS);
        wrong(d, "liesIn", of(0, 1), 1, NO_REGISTERS);
        wrong(d, "common", of(0, 1, 2), 0, NO_REGISTERS);
        wrong(d, "common", of(0, 1, 2), 1, NO_REGISTERS);
        wrong(d, "common", of(0, 1, 2), 2, NO_REGISTERS);
        wrong(d, "commons", of(0, 1), 0, NO_REGISTERS);
        wrong(d, "commons", of(0, 1), 1, NO_REGISTERS);
        for (int what = 0; what <= 1; what++) {
            wrong(d, "between", of(0, 1, what), 0, NO_REGISTERS);
            wrong(d, "between", of(0, 1, what), 1, NO_REGISTERS);
            wrong(d, "by", of(0, 1, what), 0, NO_REGISTERS);
            wrong(d, "by", of(0, 1, what), 1, -1, 7, LEAST, MOST);
        }
        wrong(d, "between", of(0, 1, 0), 2, NOT_EITHER);
        wrong(d, "by", of(0, 1, 0), 2, NOT_EITHER);
    }

    private static void wrongOfTraces(int q, Sentence d) {
        int above = q == 2 ? 13 : q == 3 ? 8 : 7;
        wrong(d, "trace", of(0), 0, NO_REGISTERS);
        wrong(d, "sources", of(1), 0, 0, -1, above, 13, LEAST, MOST);
        wrong(d, "best", of(0, 1), 0, NO_REGISTERS);
        wrong(d, "best", of(0, 1), 1, 0, -1, above, 13, LEAST, MOST);
    }

    private static void badBeforeNo(int q) {
        Sentence d = says("Of several the first: BAD, though there is no CODE, q " + q).letters(q).put(0, "01");
        for (long s : NO_REGISTERS) {
            d.due(BAD, "sum", s).due(BAD, "isOf", s).due(BAD, "listed", s, 0).due(BAD, "near", s);
            d.due(BAD, "mend", s, 0).due(BAD, "mend", 0, s).due(BAD, "mend", s, s).due(BAD, "listed", s, -1);
        }
        d.due(BAD, "listed", 0, -1).due(BAD, "listed", 0, LEAST).due(NO, "listed", 0, 0).due(NO, "mend", 0, 0);
    }

    private static void badBeforeNone(int q) {
        Sentence d = says("Of several the first: BAD, though there is NONE, q " + q).letters(q).put(0, "0101");
        d.due(0, "code", 2, 64, 63, 0).due(1, "trace", 0).due(NONE, "listed", 0, 0).due(NONE, "mend", 0, 0);
        d.due(NONE, "best", 0, 3).due(NONE, "at", 0, 4);
        for (long s : NO_REGISTERS) {
            d.due(BAD, "listed", s, 0).due(BAD, "listed", s, MOST).due(BAD, "mend", s, 0).due(BAD, "mend", 0, s);
            d.due(BAD, "best", s, 3).due(BAD, "at", s, 4).due(BAD, "at", s, MOST);
        }
        d.due(BAD, "best", 0, 0).due(BAD, "best", 0, 13).due(BAD, "listed", 0, -1);
    }

    private static void badBeforeFull(int q) {
        Sentence d = full("Of several the first: BAD, though it is FULL, q " + q, q).due(FULL, "trace", 0);
        for (long s : NO_REGISTERS) {
            d.due(BAD, "trace", s);
        }
        d.due(FULL, "trace", 11).due(8, "noTraces").due(BAD, "trace", 12).due(1, "trace", 0);
    }

    private static void badBeforeFar(int q) {
        Sentence d = full("Of several the first: BAD, though it is FAR, q " + q, q);
        d.due(FAR, "send", 0, 1).due(FAR, "send", 1, 1);
        d.due(FAR, "edit", 0, 1, 1, 0, 0).due(FAR, "edit", 1, 1, 1, 24, 0);
        for (long s : NO_REGISTERS) {
            d.due(BAD, "send", s, 1).due(BAD, "send", 1, s).due(BAD, "edit", s, 1, 1, 0, 0);
            d.due(BAD, "edit", 1, s, 1, 0, 0);
        }
        d.due(BAD, "edit", 0, 1, 1, 25, 0).due(BAD, "edit", 0, 1, 1, -1, 0).due(BAD, "edit", 0, 1, 1, 0, q);
        d.due(BAD, "edit", 0, 1, 1, 0, -1).due(BAD, "edit", 0, 1, 3, 0, 0).due(BAD, "edit", 0, 1, -1, 0, 0);
    }

    private static void noBeforeNone() {
        Sentence d = says("NO: not as things stand: there is no CODE to have none").put(0, "01");
        d.due(NO, "listed", 0, 0).due(NO, "listed", 0, MOST).due(NO, "mend", 0, 0).due(NO, "mend", 1, 2);
    }
}
