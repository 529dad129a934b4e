/** The document's sentences on THE CODE, and its promises 6 to 11: a test for each that has a bound. */
public final class CodeBoundTest {
    private static final int BAD = Sentence.BAD, NO = Sentence.NO, NONE = Sentence.NONE;
    private static final int LEAST = Sentence.LEAST, MOST = Sentence.MOST;
    private static final String ZEROS = Sentence.ZEROS, ONES = Sentence.ONES;
    private static final Check check = new Check("CodeBoundTest");

    public static void main(String[] args) {
        for (int q = 2; q <= 4; q++) {
            nOneToSixteen(q);
            mOneToSixtyFour(q);
            aBelowM(q);
            withoutCode(q);
        }
        bBelowQ();
        bNotLookedAt();
        sumByPlaces();
        sumByPlacesWrapsRound();
        sumOfThreeAndFour();
        sumOfThreeAndFourWrapsRound();
        sumOfLetters();
        sumOfAnyLength();
        ofOtherLength();
        listedFromZero();
        listedOfTheGreatest();
        codeWithoutWords();
        anotherCode();
        mendedItself();
        mendedByOneEdit();
        mendedNoneOrSeveral();
        mendedAtTheEndsOfN();
        mendedInPlace();
        nearByLength();
        nearOfRuns();
        nearOfTheLongest();
        check.end();
    }

    private static Sentence says(String text) {
        return new Sentence(check, text);
    }

    private static void nOneToSixteen(int q) {
        Sentence d = says("n (1 to 16), q " + q).rich(q);
        int[] none = {0, 17, 18, -1, LEAST, MOST};
        for (int n : none) {
            d.due(BAD, "code", n, 1, 0, 0).due(5, "count", 2);
        }
        d.due(q == 2 ? 2 : 1, "code", 1, 1, 0, 0).due(1, "count", 2);
        d.due(q == 2 ? 1 << 16 : q == 3 ? 14348907 : 1 << 30, "code", 16, 1, 0, 0).due(16, "count", 2);
        for (int n : none) {
            d.due(BAD, "code", n, 64, 63, 0).due(16, "count", 2);
        }
    }

    private static void mOneToSixtyFour(int q) {
        Sentence d = says("m (1 to 64), q " + q).rich(q);
        int[] none = {0, 65, 66, 128, -1, -64, LEAST, MOST};
        for (int m : none) {
            d.due(BAD, "code", 3, m, 0, 0).due(5, "count", 2);
        }
        d.due(q == 2 ? 8 : q * q, "code", 3, 1, 0, 0).due(3, "count", 2);
        d.letters(q).put(0, q == 2 ? "00000000000000000000111" : ZEROS);
        d.due(q == 2 ? 1 : 0, "code", 4, 64, 0, 0).due(q == 2 ? 2 : 20, "sum", 0);
    }

    /** Words of two letters sum up to 0, 1, 2, 3 for q 2; of 00, 12, 21 and of 00, 13, 22, 31 only the last falls. */
    private static void aBelowM(int q) {
        int[] all = {4, 3, 4};
        int[] even = {2, 1, 1};
        int[] odd = {2, 2, 3};
        aBelow(q, 1, all[q - 2], all[q - 2]);
        aBelow(q, 2, even[q - 2], odd[q - 2]);
        aBelow(q, 5, 1, 0);
        aBelow(q, 63, 1, 0);
        aBelow(q, 64, 1, 0);
    }

    private static void aBelow(int q, int m, int withFirst, int withLast) {
        Sentence d = says("a (0 to m - 1), q " + q + ", m " + m).rich(q);
        int[] none = {-1, m, m + 1, -m, 64, LEAST, MOST};
        for (int a : none) {
            d.due(BAD, "code", 2, m, a, 0).due(5, "count", 2);
        }
        d.due(withFirst, "code", 2, m, 0, 0).due(2, "count", 2);
        d.due(withLast, "code", 2, m, m - 1, 0).due(2, "count", 2);
    }

    private static void withoutCode(int q) {
        Sentence d = says("NO: there is no CODE, q " + q).letters(q).put(0, "01").put(1, ZEROS);
        for (int s = 0; s <= 11; s++) {
            d.due(NO, "sum", s).due(NO, "isOf", s).due(NO, "listed", s, 0).due(NO, "mend", s, 0).due(NO, "near", s);
        }
        d.due(NO, "listed", 0, MOST).due(NO, "mend", 2, 1);
        d.due(BAD, "code", 0, 1, 0, 0).due(NO, "sum", 0).due(0, "count", 2);
        d.due(q == 4 ? 2 : 1, "code", 2, 4, q == 2 ? 2 : 0, 1).due(q == 2 ? 2 : 1, "sum", 0);
        d.letters(q).due(NO, "sum", 0).due(NO, "isOf", 0).due(NO, "listed", 0, 0).due(NO, "mend", 0, 0);
        d.due(NO, "near", 0);
    }

    private static void bBelowQ() {
        for (int q = 3; q <= 4; q++) {
            Sentence d = says("b told, 0 to q - 1, q " + q).rich(q);
            int[] none = {-1, q, q + 1, -q, 2 * q, LEAST, MOST};
            for (int b : none) {
                d.due(BAD, "code", 1, 1, 0, b).due(5, "count", 2);
            }
            for (int b = 0; b < q; b++) {
                d.due(1, "code", 1, 1, 0, b).due(1, "listed", 3, 0).dueRow(3, "" + b);
            }
        }
    }

    private static void bNotLookedAt() {
        Sentence d = says("for q 2 not looked at");
        int[] any = {LEAST, -1, 0, 1, 2, 3, MOST};
        for (int b : any) {
            d.due(4, "code", 4, 5, 0, b).put(0, "0110").due(1, "isOf", 0).put(0, "1011").due(0, "isOf", 0);
            d.due(1, "code", 1, 2, 1, b).due(1, "listed", 1, 0).dueRow(1, "1");
        }
    }

    private static void sumByPlaces() {
        Sentence d = says("for q 2: THE SUM is that of i times LETTER i (i from 1)");
        d.due(2, "code", 1, 1, 0, 0).due(0, "code", 2, 64, 63, 0);
        for (int i = 1; i <= 24; i++) {
            d.put(0, ZEROS.substring(24 - i + 1) + "1" + ZEROS.substring(i)).due(i, "sum", 0);
        }
        d.put(0, "1").due(1, "sum", 0).put(0, "0").due(0, "sum", 0).put(0, "11").due(3, "sum", 0);
        d.put(0, "").due(0, "sum", 0);
    }

    private static void sumByPlacesWrapsRound() {
        Sentence d = says("THE SUM a modulo m, q 2").put(0, ONES).put(1, ONES.substring(13));
        int[] moduli = {1, 2, 7, 24, 63, 64};
        for (int m : moduli) {
            d.due(m == 1 ? 2 : 1, "code", 1, m, 0, 0).due(300 % m, "sum", 0).due(66 % m, "sum", 1);
        }
        d.put(2, "0001").due(4, "code", 4, 4, 0, 0).due(0, "sum", 2).due(1, "isOf", 2);
        d.due(3, "code", 4, 5, 4, 0).due(4, "sum", 2).due(1, "isOf", 2);
        d.due(6, "code", 4, 3, 1, 0).due(1, "sum", 2).due(1, "isOf", 2);
    }

    private static void sumOfThreeAndFour() {
        for (int q = 3; q <= 4; q++) {
            Sentence d = says("the sum of i - 1 for each i from 2 on, not below, q " + q).letters(q);
            d.due(0, "code", 1, 64, 63, 0);
            String[] rows = {"", "0", "2", "00", "01", "10", "22", "21", "210", "211", "212", "011", "012", "0101"};
            int[] sums = {0, 0, 0, 1, 1, 0, 1, 0, 0, 2, 2, 3, 3, 4};
            for (int k = 0; k < rows.length; k++) {
                d.put(0, rows[k]).due(sums[k], "sum", 0);
            }
        }
    }

    /** Twenty-four equal letters count 1 to 23, 276 in all. */
    private static void sumOfThreeAndFourWrapsRound() {
        for (int q = 3; q <= 4; q++) {
            Sentence d = says("THE SUM a modulo m, q " + q).letters(q).put(0, ZEROS).put(1, "100").put(2, "101");
            int[] moduli = {1, 2, 7, 23, 24, 63, 64};
            for (int m : moduli) {
                d.due(1, "code", 1, m, 0, 0).due(276 % m, "sum", 0).due(2 % m, "sum", 1).due(2 % m, "sum", 2);
            }
        }
    }

    private static void sumOfLetters() {
        for (int q = 3; q <= 4; q++) {
            Sentence d = says("the sum of LETTERS is b modulo q, q " + q).letters(q);
            String[] rows = {"1110", "1111", "2220", "2221", "2222"};
            int[] sums = {3, 4, 6, 7, 8};
            for (int b = 0; b < q; b++) {
                d.due(q * q * q, "code", 4, 1, 0, b);
                for (int k = 0; k < rows.length; k++) {
                    d.put(0, rows[k]).due(sums[k] % q == b ? 1 : 0, "isOf", 0);
                }
            }
        }
    }

    private static void sumOfAnyLength() {
        Sentence d = says("THE SUM of a WORD modulo m of THE CODE: a WORD of any length").put(0, "").put(1, "1");
        d.put(2, "1111").put(3, ONES).due(1, "code", 4, 11, 10, 0);
        d.due(0, "sum", 0).due(1, "sum", 1).due(10, "sum", 2).due(300 % 11, "sum", 3).due(0, "sum", 11);
        d.due(0, "isOf", 0).due(0, "isOf", 1).due(1, "isOf", 2).due(0, "isOf", 3);
    }

    private static void ofOtherLength() {
        Sentence d = says("all WORDS of n LETTERS: no other is of THE CODE").due(1 << 15, "code", 15, 1, 0, 0);
        for (int n = 0; n <= 24; n++) {
            d.put(0, ZEROS.substring(0, n)).due(n == 15 ? 1 : 0, "isOf", 0);
        }
        d.due(2, "code", 1, 1, 0, 0).put(0, "").due(0, "isOf", 0).put(0, "0").due(1, "isOf", 0).put(0, "00");
        d.due(0, "isOf", 0).due(1 << 16, "code", 16, 1, 0, 0).put(0, ZEROS.substring(8)).due(1, "isOf", 0);
        d.put(0, ZEROS.substring(7)).due(0, "isOf", 0).put(0, ZEROS.substring(9)).due(0, "isOf", 0);
    }

    private static void listedFromZero() {
        Sentence d = says("WORD i (from 0) of THE CODE, in order").rich(2).due(4, "code", 4, 5, 0, 0);
        int[] bad = {-1, -2, LEAST};
        int[] none = {4, 5, 1 << 16, MOST};
        for (int i : bad) {
            d.due(BAD, "listed", 0, i);
        }
        for (int i : none) {
            d.due(NONE, "listed", 0, i);
        }
        d.due(4, "listed", 0, 0).dueRow(0, "0000").due(4, "listed", 0, 1).dueRow(0, "0110");
        d.due(4, "listed", 2, 2).dueRow(2, "1001").due(4, "listed", 11, 3).dueRow(11, "1111");
        d.letters(3).due(5, "code", 3, 3, 0, 0);
        String[] rows = {"000", "012", "111", "210", "222"};
        for (int i = 0; i < 5; i++) {
            d.due(3, "listed", i, i).dueRow(i, rows[i]);
        }
        d.due(NONE, "listed", 0, 5).due(BAD, "listed", 0, -1);
    }

    private static void listedOfTheGreatest() {
        for (int q = 2; q <= 4; q++) {
            int size = q == 2 ? 1 << 16 : q == 3 ? 14348907 : 1 << 30;
            Sentence d = says("NONE: it has no such one, q " + q).letters(q).due(size, "code", 16, 1, 0, 0);
            d.due(16, "listed", 0, 0).dueRow(0, ZEROS.substring(8));
            String last = q == 2 ? "1111111111111111" : q == 3 ? "2222222222222220" : "3333333333333333";
            d.due(16, "listed", 0, size - 1).dueRow(0, last);
            d.due(NONE, "listed", 0, size).due(NONE, "listed", 0, MOST).due(BAD, "listed", 0, LEAST);
        }
    }

    private static void codeWithoutWords() {
        for (int q = 2; q <= 4; q++) {
            Sentence d = says("THE CODE: how many WORDS it has: none, q " + q).letters(q).put(0, "0").put(1, "01");
            d.due(0, "code", 1, 64, 63, 0).due(1, "count", 2).due(0, "isOf", 0).due(0, "sum", 0);
            for (int s = 0; s <= 2; s++) {
                d.due(0, "near", s).due(NONE, "mend", 3, s).due(NONE, "mend", s, s).due(NONE, "listed", s, 0);
            }
            d.due(BAD, "listed", 0, -1);
        }
    }

    private static void anotherCode() {
        Sentence d = says("THE CODE: the one that was told last").letters(4).put(0, "00");
        d.due(1 << 30, "code", 16, 1, 0, 3).due(0, "isOf", 0);
        d.due(4, "code", 2, 1, 0, 0).due(2, "count", 2).due(1, "isOf", 0).due(NONE, "listed", 1, 4);
        d.due(2, "code", 2, 2, 1, 3).due(0, "isOf", 0).due(2, "listed", 1, 0).dueRow(1, "03");
        d.due(2, "listed", 1, 1).dueRow(1, "12").due(NONE, "listed", 1, 2);
    }

    private static void mendedItself() {
        Sentence d = says("itself, if it is one of them").put(0, "0110").put(1, "1").put(2, "0110");
        d.due(16, "code", 4, 1, 0, 0).due(5, "near", 0).due(0, "mend", 5, 0).dueRow(5, "0110");
        d.due(0, "mend", 0, 0).dueRow(0, "0110").due(0, "mend", 1, 2).dueRow(1, "0110");
        d.due(2, "code", 1, 1, 0, 0).put(3, "1").due(2, "near", 3).due(0, "mend", 4, 3).dueRow(4, "1");
    }

    private static void mendedByOneEdit() {
        Sentence d = says("else that one, if there is just one").put(0, "011").put(1, "00110").put(2, "0111");
        d.due(4, "code", 4, 5, 0, 0).due(1, "near", 0).due(1, "mend", 5, 0).dueRow(5, "0110");
        d.due(1, "near", 1).due(1, "mend", 5, 1).dueRow(5, "0110");
        d.due(2, "near", 2).due(NONE, "mend", 5, 2);
        d.put(3, "1101").due(1, "code", 4, 64, 10, 0).due(1, "near", 3).due(1, "mend", 3, 3).dueRow(3, "1111");
    }

    private static void mendedNoneOrSeveral() {
        Sentence d = says("NONE: no such one or several").put(0, "0011").put(1, "00").put(2, "001100").put(3, ZEROS);
        d.put(5, "11").put(6, "0111").put(7, "000").due(4, "code", 4, 5, 0, 0);
        int[] near = {0, 0, 0, 0, 0, 0, 2, 1};
        for (int t = 0; t < 7; t++) {
            d.due(near[t], "near", t).due(NONE, "mend", 5, t).due(NONE, "mend", t, t);
        }
        d.due(1, "near", 7).due(1, "mend", 5, 7).dueRow(5, "0000");
    }

    /** Of one letter the empty word comes by a loss; of sixteen come fifteen and seventeen. */
    private static void mendedAtTheEndsOfN() {
        Sentence d = says("MENDED in a CODE of 1 and of 16").due(1, "code", 1, 2, 1, 0);
        d.due(1, "near", 0).due(1, "mend", 1, 0).dueRow(1, "1").put(2, "00").due(0, "near", 2).due(NONE, "mend", 1, 2);
        d.put(2, "01").due(1, "near", 2).due(1, "mend", 1, 2).dueRow(1, "1").put(2, "0").due(1, "mend", 1, 2);
        d.put(2, "010").due(0, "near", 2).due(2, "code", 1, 1, 0, 0).due(2, "near", 0).due(NONE, "mend", 1, 0);
        String sixteen = ZEROS.substring(8);
        d.put(3, sixteen + "0").put(4, sixteen.substring(1)).put(5, sixteen + "00").put(6, sixteen.substring(2));
        d.put(7, sixteen.substring(1) + "1").due(3856, "code", 16, 17, 0, 0);
        d.due(1, "mend", 8, 3).dueRow(8, sixteen).due(1, "mend", 9, 4).dueRow(9, sixteen);
        d.due(NONE, "mend", 8, 5).due(NONE, "mend", 8, 6);
        d.due(0, "near", 5).due(0, "near", 6).due(1, "near", 3).due(1, "near", 4);
    }

    private static void mendedInPlace() {
        Sentence d = says("REGISTER s becomes t MENDED: s may be t").put(0, "011").due(4, "code", 4, 5, 0, 0);
        d.due(1, "mend", 0, 0).dueRow(0, "0110").due(0, "mend", 0, 0).dueRow(0, "0110");
    }

    private static void nearByLength() {
        for (int q = 2; q <= 4; q++) {
            Sentence d = says("WORDS of THE CODE that come to t by no or ONE EDIT, q " + q).letters(q);
            int size = q == 2 ? 1 << 10 : q == 3 ? 19683 : 1 << 18;
            d.due(size, "code", 10, 1, 0, 0);
            for (int n = 0; n <= 24; n++) {
                int near = n < 9 || n > 11 ? 0 : q == 2 && n < 11 ? 11 : 1;
                d.put(0, ZEROS.substring(24 - n)).due(near, "near", 0);
            }
        }
    }

    private static void nearOfRuns() {
        Sentence d = says("How many WORDS: each counts once").due(16, "code", 4, 1, 0, 0);
        String[] rows = {"00000", "00011", "01010", "01100", "000", "010"};
        int[] near = {1, 2, 5, 3, 5, 5};
        for (int k = 0; k < rows.length; k++) {
            d.put(0, rows[k]).due(near[k], "near", 0);
        }
        d.put(0, "0000").due(5, "near", 0).put(0, "").due(0, "near", 0);
    }

    /** The sum of letters is 1, so of all zeros one letter 1 is lost, or turned, at each of the places. */
    private static void nearOfTheLongest() {
        Sentence d = says("come to t by no or ONE EDIT: the longest").letters(4).due(1 << 30, "code", 16, 1, 0, 1);
        d.put(0, ZEROS.substring(9)).due(16, "near", 0).put(0, ZEROS.substring(8)).due(16, "near", 0);
        d.put(0, ZEROS.substring(8) + "1").due(1, "near", 0).put(0, ZEROS.substring(7)).due(0, "near", 0);
        d.put(0, ZEROS).due(0, "near", 0);
    }
}
