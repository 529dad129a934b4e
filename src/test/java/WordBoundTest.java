/** The document's sentences on WORDS, REGISTERS and LETTERS, and promises 1 to 5: a test for each with a bound. */
public final class WordBoundTest {
    private static final int BAD = Sentence.BAD, NO = Sentence.NO, NONE = Sentence.NONE, FAR = Sentence.FAR;
    private static final int LEAST = Sentence.LEAST, MOST = Sentence.MOST;
    private static final String ZEROS = Sentence.ZEROS;
    private static final String ALL_FOUR = "012301230123012301230123";
    private static final Check check = new Check("WordBoundTest");

    public static void main(String[] args) {
        registers();
        registersAreTwelve();
        lettersBelowQ();
        lettersOfEdits();
        qTwoToFour();
        upToTwentyFour();
        calls512();
        newObject();
        newSeedIsOne();
        newLineDoesNothing();
        lettersEmptyAll();
        firstLowest();
        letterAboveQ();
        otherBits();
        at();
        atOfFullAndEmpty();
        kinds();
        lost();
        gained();
        turned();
        farByEdit();
        inPlace();
        check.end();
    }

    private static Sentence says(String text) {
        return new Sentence(check, text);
    }

    private static void registers() {
        Sentence d = says("REGISTERS 0 to 11 (empty at first)");
        for (int s = 0; s <= 11; s++) {
            d.due(0, "at", s, -1).due(NONE, "at", s, 0);
        }
        int[] none = {-1, 12, 13, LEAST, MOST};
        for (int s : none) {
            d.due(BAD, "at", s, -1).due(BAD, "at", s, 0).due(BAD, "word", s, 0, 0).due(BAD, "trace", s);
        }
        d.due(1, "word", 0, 1, 1).due(1, "word", 11, 1, 1).due(1, "at", 0, 0).due(1, "at", 11, 0).due(2, "count", 3);
    }

    private static void registersAreTwelve() {
        Sentence d = says("REGISTERS 0 to 11: each is one of its own").letters(4);
        for (int s = 0; s <= 11; s++) {
            d.put(s, ALL_FOUR.substring(s, 2 * s));
        }
        for (int s = 0; s <= 11; s++) {
            d.dueRow(s, ALL_FOUR.substring(s, 2 * s));
        }
        d.due(66, "count", 3);
    }

    private static void lettersBelowQ() {
        for (int q = 2; q <= 4; q++) {
            Sentence d = says("LETTERS 0 to q - 1, q " + q).letters(q);
            d.put(0, "0" + (q - 1)).dueRow(0, "0" + (q - 1));
            d.put(0, ("" + (q - 1)).repeat(24)).dueRow(0, ("" + (q - 1)).repeat(24));
            for (int l = q; l <= 3; l++) {
                d.due(BAD, "word", 0, 1, l).due(BAD, "word", 1, 24, (long) l << 46);
            }
        }
    }

    private static void lettersOfEdits() {
        for (int q = 2; q <= 4; q++) {
            for (int kind = 1; kind <= 2; kind++) {
                Sentence d = says("l is a LETTER 0 to q - 1, q " + q).letters(q).put(0, "1");
                String rest = kind == 1 ? "1" : "";
                d.due(3 - kind, "edit", 1, 0, kind, 0, 0).dueRow(1, "0" + rest);
                d.due(3 - kind, "edit", 1, 0, kind, 0, q - 1).dueRow(1, (q - 1) + rest);
                int[] none = {q, 4, 5, -1, LEAST, MOST};
                for (int l : none) {
                    d.due(BAD, "edit", 1, 0, kind, 0, l).due(BAD, "edit", 0, 0, kind, 0, l);
                }
            }
        }
    }

    private static void qTwoToFour() {
        Sentence d = says("q 2 to 4; 2 at first").due(2, "count", 0).due(BAD, "word", 0, 1, 2);
        int[] none = {1, 5, 0, -1, -2, LEAST, MOST};
        for (int q = 2; q <= 4; q++) {
            d.letters(q).due(q, "count", 0).due(1, "word", 0, 1, q - 1).due(1, "trace", 0);
            for (int w : none) {
                d.due(BAD, "letters", w).due(q, "count", 0);
            }
        }
        d.letters(2).due(2, "count", 0);
    }

    private static void upToTwentyFour() {
        Sentence d = says("0 to 24 of them").due(0, "word", 0, 0, 0).due(0, "at", 0, -1);
        d.due(24, "word", 0, 24, 0x555555555555L).dueRow(0, Sentence.ONES);
        d.due(23, "word", 1, 23, 0x155555555555L).dueRow(1, Sentence.ONES.substring(1));
        int[] none = {25, 26, 31, 32, 33, 56, 64, 65, -1, -8, -32, -64, LEAST, MOST};
        for (int n : none) {
            d.due(BAD, "word", 0, n, 0).due(BAD, "word", 2, n, 1);
        }
        d.due(0, "word", 0, 0, 0).due(0, "at", 0, -1).due(23, "count", 3);
    }

    private static void calls512() {
        LostLetters x = new LostLetters();
        x.letters(4);
        x.code(4, 4, 1, 1);
        for (int call = 3; call < 512; call++) {
            check.due("call " + call, x.word(call % 12, call % 25, 0), call % 25);
        }
        check.due("\"at most 512 calls\": the 512th", x.count(3), lettersAfter511Calls());
    }

    private static int lettersAfter511Calls() {
        int all = 0;
        for (int call = 511; call > 511 - 12; call--) {
            all += call % 25;
        }
        return all;
    }

    private static void newObject() {
        Sentence d = says("q 2; no CODE, no TRACES");
        d.due(2, "count", 0).due(0, "count", 1).due(0, "count", 2).due(0, "count", 3);
        d.due(NO, "sum", 0).due(NO, "isOf", 0).due(NO, "listed", 0, 0).due(NO, "mend", 0, 0).due(NO, "near", 0);
        d.due(0, "noTraces").due(4096, "sources", 12).due(1, "trace", 0);
    }

    /** From SEED 1 on v is 0, 46, 55, 24, 50, 23; from 0 on the second would be 0 too, from 2 on it is 29. */
    private static void newSeedIsOne() {
        Sentence d = says("SEED 1").put(0, "000000").due(0, "line", 0, 0, 46);
        d.due(6, "send", 1, 0).dueRow(1, "100101");
        d = says("SEED 1").put(0, "000000").due(0, "line", 0, 0, 47);
        d.due(6, "send", 1, 0).dueRow(1, "110101");
    }

    private static void newLineDoesNothing() {
        Sentence d = says("THE LINE does nothing").put(0, ZEROS).due(24, "send", 1, 0).dueRow(1, ZEROS);
        d.put(2, "0110").due(4, "send", 2, 2).dueRow(2, "0110").due(0, "send", 2, 3).dueRow(2, "");
    }

    private static void lettersEmptyAll() {
        for (int before = 2; before <= 4; before++) {
            for (int q = 2; q <= 4; q++) {
                Sentence d = says("q; all WORDS are empty, no CODE, no TRACES, " + before + " to " + q).rich(before);
                d.put(5, ZEROS).letters(q).due(q, "count", 0).due(0, "count", 1).due(0, "count", 2).due(0, "count", 3);
                for (int s = 0; s <= 11; s++) {
                    d.due(0, "at", s, -1).due(NONE, "at", s, 0);
                }
                d.due(NO, "sum", 0).due(NO, "isOf", 0).due(NO, "listed", 0, 0).due(NO, "mend", 0, 0).due(NO, "near", 0);
                d.due(q, "sources", 1).due(0, "noTraces").due(1, "trace", 0);
                d.due(0, "letters", q).due(0, "count", 1);
            }
        }
    }

    private static void firstLowest() {
        Sentence d = says("told by two bits each, the first one lowest").letters(4);
        for (int i = 0; i < 24; i++) {
            d.due(24, "word", 0, 24, 1L << 2 * i).due(1, "at", 0, i);
        }
        for (int i = 0; i < 24; i += 23) {
            d.due(24, "word", 0, 24, 2L << 2 * i).dueRow(0, ZEROS.substring(0, i) + "2" + ZEROS.substring(i + 1));
            d.due(24, "word", 0, 24, 3L << 2 * i).dueRow(0, ZEROS.substring(0, i) + "3" + ZEROS.substring(i + 1));
        }
        d.due(24, "word", 0, 24, Check.bits(ALL_FOUR)).dueRow(0, ALL_FOUR);
    }

    private static void letterAboveQ() {
        for (int q = 2; q <= 3; q++) {
            Sentence d = says("BAD (a LETTER above q - 1), q " + q).rich(q);
            for (int i = 0; i < 24; i++) {
                d.due(BAD, "word", 1, 24, 3L << 2 * i).due(BAD, "word", 1, i + 1, 3L << 2 * i);
                d.due(q == 2 ? BAD : 24, "word", 1, 24, 2L << 2 * i);
            }
        }
    }

    private static void otherBits() {
        Sentence d = says("BAD (other bits)").rich(4);
        for (int n = 0; n <= 24; n++) {
            d.due(BAD, "word", 1, n, 1L << 2 * n).due(BAD, "word", 1, n, 2L << 2 * n);
            d.due(BAD, "word", 1, n, 1L << 62).due(BAD, "word", 1, n, Long.MIN_VALUE).due(BAD, "word", 1, n, -1);
            d.due(BAD, "word", 1, n, Long.MAX_VALUE).due(BAD, "word", 1, n, -1L << 2 * n);
            d.due(n, "word", 2, n, (1L << 2 * n) - 1);
        }
        d.dueRow(2, "3".repeat(24));
    }

    private static void at() {
        Sentence d = says("LETTER i; NONE; i = -1: how many. BAD.").letters(4).put(0, "3102");
        d.due(4, "at", 0, -1).due(3, "at", 0, 0).due(2, "at", 0, 3);
        int[] beyond = {4, 5, 23, 24, 25, 31, 32, 64, MOST};
        for (int i : beyond) {
            d.due(NONE, "at", 0, i);
        }
        int[] none = {-2, -3, -32, -64, LEAST};
        for (int i : none) {
            d.due(BAD, "at", 0, i);
        }
    }

    private static void atOfFullAndEmpty() {
        Sentence d = says("LETTER i; NONE; i = -1: how many: of 24 and of none").letters(4).put(0, ALL_FOUR);
        d.due(24, "at", 0, -1).due(0, "at", 0, 0).due(3, "at", 0, 23).due(NONE, "at", 0, 24).due(BAD, "at", 0, -2);
        d.due(0, "at", 1, -1).due(NONE, "at", 1, 0).due(NONE, "at", 1, MOST).due(BAD, "at", 1, -2);
        d.put(0, "").due(0, "at", 0, -1).due(NONE, "at", 0, 0);
    }

    private static void kinds() {
        Sentence d = says("kind 0, 1, 2").rich(3);
        int[] none = {-1, 3, 4, LEAST, MOST};
        for (int kind : none) {
            d.due(BAD, "edit", 5, 0, kind, 0, 0).due(BAD, "edit", 5, 3, kind, 0, 0);
        }
        d.due(3, "edit", 5, 0, 0, 0, 0).dueRow(5, "110");
        d.due(5, "edit", 5, 0, 1, 0, 0).dueRow(5, "00110");
        d.due(4, "edit", 5, 0, 2, 0, 2).dueRow(5, "2110");
    }

    private static void lost() {
        Sentence d = says("kind 0 LETTER i is lost").letters(4).put(0, "3102").put(2, "2").put(3, ALL_FOUR);
        d.due(3, "edit", 1, 0, 0, 0, 0).dueRow(1, "102").due(3, "edit", 1, 0, 0, 3, 0).dueRow(1, "310");
        int[] none = {-1, 4, 5, 23, 24, MOST, LEAST};
        for (int i : none) {
            d.due(BAD, "edit", 1, 0, 0, i, 0);
        }
        d.due(BAD, "edit", 1, 5, 0, 0, 0).due(BAD, "edit", 1, 5, 0, -1, 0);
        d.due(0, "edit", 1, 2, 0, 0, 0).dueRow(1, "").due(BAD, "edit", 1, 1, 0, 0, 0);
        d.due(23, "edit", 1, 3, 0, 23, 0).dueRow(1, ALL_FOUR.substring(0, 23));
        d.due(23, "edit", 1, 3, 0, 0, 0).dueRow(1, ALL_FOUR.substring(1));
        d.due(BAD, "edit", 1, 3, 0, 24, 0).dueRow(0, "3102").dueRow(3, ALL_FOUR);
        d.due(3, "edit", 1, 0, 0, 0, MOST).dueRow(1, "102").due(3, "edit", 1, 0, 0, 3, LEAST).dueRow(1, "310");
    }

    private static void gained() {
        Sentence d = says("1 l comes ahead of LETTER i (i how many: behind all)").letters(4).put(0, "3102");
        d.due(5, "edit", 1, 0, 1, 0, 1).dueRow(1, "13102").due(5, "edit", 1, 0, 1, 3, 1).dueRow(1, "31012");
        d.due(5, "edit", 1, 0, 1, 4, 1).dueRow(1, "31021");
        int[] none = {-1, 5, 6, 24, MOST, LEAST};
        for (int i : none) {
            d.due(BAD, "edit", 1, 0, 1, i, 1);
        }
        d.due(1, "edit", 1, 5, 1, 0, 3).dueRow(1, "3").due(BAD, "edit", 1, 5, 1, 1, 3).due(BAD, "edit", 1, 5, 1, -1, 3);
        d.put(2, ALL_FOUR.substring(1)).due(24, "edit", 1, 2, 1, 0, 0).dueRow(1, ALL_FOUR);
        d.due(24, "edit", 1, 2, 1, 23, 2).dueRow(1, ALL_FOUR.substring(1) + "2");
        d.due(BAD, "edit", 1, 2, 1, 24, 2);
    }

    private static void turned() {
        Sentence d = says("2 LETTER i becomes l").letters(4).put(0, "3102").put(3, ALL_FOUR);
        d.due(4, "edit", 1, 0, 2, 0, 0).dueRow(1, "0102").due(4, "edit", 1, 0, 2, 3, 3).dueRow(1, "3103");
        d.due(4, "edit", 1, 0, 2, 1, 1).dueRow(1, "3102");
        int[] none = {-1, 4, 5, 24, MOST, LEAST};
        for (int i : none) {
            d.due(BAD, "edit", 1, 0, 2, i, 0);
        }
        d.due(BAD, "edit", 1, 5, 2, 0, 0).due(BAD, "edit", 1, 5, 2, -1, 0);
        d.due(24, "edit", 1, 3, 2, 23, 0).dueRow(1, ALL_FOUR.substring(0, 23) + "0");
        d.due(24, "edit", 1, 3, 2, 0, 3).dueRow(1, "3" + ALL_FOUR.substring(1)).due(BAD, "edit", 1, 3, 2, 24, 0);
    }

    private static void farByEdit() {
        Sentence d = says("FAR: a WORD would have more than 24, by edit").rich(2).due(24, "at", 2, -1);
        int[] places = {0, 1, 12, 23, 24};
        for (int i : places) {
            d.due(FAR, "edit", 0, 2, 1, i, 1).due(FAR, "edit", 2, 2, 1, i, 0);
        }
        d.due(24, "edit", 5, 4, 1, 0, 0).due(24, "edit", 5, 4, 1, 23, 0).due(FAR, "edit", 5, 5, 1, 0, 0);
        d.due(23, "edit", 5, 2, 0, 0, 0).due(24, "edit", 5, 2, 2, 0, 1);
    }

    private static void inPlace() {
        Sentence d = says("REGISTER s becomes t with an EDIT: s may be t").letters(3).put(0, "012");
        d.due(2, "edit", 0, 0, 0, 1, 0).dueRow(0, "02").due(3, "edit", 0, 0, 1, 2, 1).dueRow(0, "021");
        d.due(3, "edit", 0, 0, 2, 0, 2).dueRow(0, "221").put(1, ZEROS.substring(1));
        d.due(24, "edit", 1, 1, 1, 23, 2).dueRow(1, ZEROS.substring(1) + "2").due(FAR, "edit", 1, 1, 1, 0, 0);
    }
}
