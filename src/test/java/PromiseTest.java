/** Each promise by itself: ordinary inputs, the edges that the document names, and wrong inputs. */
public final class PromiseTest {
    private static final int BAD = -1, NO = -2, FULL = -3, NONE = -4, FAR = -5;
    private static final int[] NO_REGISTERS = {-1, 12, Integer.MIN_VALUE, Integer.MAX_VALUE};
    private static final String ZEROS = "000000000000000000000000";
    private static final Check check = new Check("PromiseTest");

    public static void main(String[] args) {
        newObject();
        letters();
        word();
        at();
        edit();
        code();
        sum();
        isOf();
        listed();
        mend();
        near();
        liesIn();
        common();
        commons();
        between();
        by();
        trace();
        noTraces();
        sources();
        best();
        line();
        seed();
        send();
        count();
        check.end();
    }

    private static void due(String call, long got, long want) {
        check.due(call, got, want);
    }

    private static void dueRow(String call, LostLetters x, int s, String want) {
        check.due(call, Check.read(x, s), want);
    }

    private static LostLetters with(int q, String... words) {
        LostLetters x = new LostLetters();
        due("letters(" + q + ")", x.letters(q), 0);
        for (int s = 0; s < words.length; s++) {
            Check.put(x, s, words[s]);
        }
        return x;
    }

    private static void newObject() {
        LostLetters x = new LostLetters();
        due("1 q", x.count(0), 2);
        due("1 traces", x.count(1), 0);
        due("1 code", x.count(2), 0);
        due("1 letters of all", x.count(3), 0);
        for (int s = 0; s < 12; s++) {
            due("1 length of " + s, x.at(s, -1), 0);
        }
        due("1 no code", x.isOf(0), NO);
        due("1 no traces", x.noTraces(), 0);
        Check.put(x, 0, "0110");
        due("1 line does nothing", x.send(1, 0), 4);
        dueRow("1 line does nothing", x, 1, "0110");
        newSeed();
        due("1 BAD", LostLetters.BAD, -1);
        due("1 NO", LostLetters.NO, -2);
        due("1 FULL", LostLetters.FULL, -3);
        due("1 NONE", LostLetters.NONE, -4);
        due("1 FAR", LostLetters.FAR, -5);
    }

    private static void newSeed() {
        for (int losses = 0; losses <= 64; losses++) {
            LostLetters x = with(2, ZEROS);
            LostLetters y = with(2, ZEROS);
            y.seed(1);
            x.line(losses, 0, 0);
            y.line(losses, 0, 0);
            due("1 seed 1", x.send(1, 0), y.send(1, 0));
        }
    }

    private static void letters() {
        LostLetters x = with(4, "0123", "3");
        x.code(4, 5, 1, 2);
        x.trace(0);
        int[] wrong = {1, 5, 0, -1, Integer.MIN_VALUE, Integer.MAX_VALUE};
        for (int q : wrong) {
            due("2 letters(" + q + ")", x.letters(q), BAD);
        }
        due("2 q stays", x.count(0), 4);
        due("2 traces stay", x.count(1), 1);
        due("2 code stays", x.count(2), 4);
        dueRow("2 words stay", x, 0, "0123");
        for (int q = 4; q >= 2; q--) {
            Check.put(x, 11, "01");
            x.trace(11);
            x.code(3, 2, 1, 0);
            due("2 letters(" + q + ")", x.letters(q), 0);
            due("2 q", x.count(0), q);
            due("2 traces", x.count(1), 0);
            due("2 code", x.count(2), 0);
            due("2 letters of all", x.count(3), 0);
            due("2 no code", x.near(0), NO);
        }
        lettersLeaveLineAndSeed();
    }

    private static void lettersLeaveLineAndSeed() {
        LostLetters x = with(2, ZEROS);
        x.line(16, 16, 16);
        x.seed(77);
        LostLetters y = with(2, ZEROS);
        y.line(16, 16, 16);
        y.seed(77);
        x.letters(2);
        Check.put(x, 0, ZEROS.substring(0, 12));
        Check.put(y, 0, ZEROS.substring(0, 12));
        due("2 line and seed stay", x.send(1, 0), y.send(1, 0));
        dueRow("2 line and seed stay", x, 1, Check.read(y, 1));
    }

    private static void word() {
        LostLetters x = with(3, "012");
        due("3 word", x.word(1, 3, 2 | 1 << 2), 3);
        dueRow("3 first lowest", x, 1, "210");
        due("3 24 letters", x.word(11, 24, 0x555555555555L), 24);
        dueRow("3 24 letters", x, 11, "111111111111111111111111");
        due("3 25 letters", x.word(11, 25, 0), BAD);
        due("3 -1 letters", x.word(11, -1, 0), BAD);
        due("3 many letters", x.word(11, Integer.MAX_VALUE, 0), BAD);
        due("3 32 letters", x.word(11, 32, 0), BAD);
        due("3 letter 3", x.word(0, 3, 3), BAD);
        due("3 letter 3 at the end", x.word(0, 24, 3L << 46), BAD);
        due("3 other bits", x.word(0, 3, 1 << 6), BAD);
        due("3 other bits behind 24", x.word(0, 24, 1L << 48), BAD);
        due("3 below 0", x.word(0, 24, -1), BAD);
        due("3 lowest", x.word(0, 24, Long.MIN_VALUE), BAD);
        due("3 none with bits", x.word(0, 0, 1), BAD);
        for (int s : NO_REGISTERS) {
            due("3 register " + s, x.word(s, 1, 0), BAD);
        }
        dueRow("3 nothing changes", x, 0, "012");
        due("3 empty", x.word(0, 0, 0), 0);
        dueRow("3 empty", x, 0, "");
        x.letters(2);
        due("3 letter 2 of 2", x.word(0, 1, 2), BAD);
        x.letters(4);
        due("3 letter 3 of 4", x.word(0, 24, (1L << 48) - 1), 24);
        dueRow("3 letter 3 of 4", x, 0, "333333333333333333333333");
    }

    private static void at() {
        LostLetters x = with(4, "3102");
        int[] want = {4, 3, 1, 0, 2, NONE};
        for (int i = -1; i < 5; i++) {
            due("4 at " + i, x.at(0, i), want[i + 1]);
        }
        due("4 beyond", x.at(0, 24), NONE);
        due("4 far beyond", x.at(0, Integer.MAX_VALUE), NONE);
        due("4 -2", x.at(0, -2), BAD);
        due("4 lowest", x.at(0, Integer.MIN_VALUE), BAD);
        for (int s : NO_REGISTERS) {
            due("4 register " + s, x.at(s, -1), BAD);
        }
        due("4 register 11", x.at(11, 0), NONE);
    }

    private static void edit() {
        LostLetters x = with(3, "0121", "", ZEROS);
        due("5 lost first", x.edit(3, 0, 0, 0, 0), 3);
        dueRow("5 lost first", x, 3, "121");
        due("5 lost last", x.edit(3, 0, 0, 3, 0), 3);
        dueRow("5 lost last", x, 3, "012");
        due("5 lost within", x.edit(3, 0, 0, 1, 0), 3);
        dueRow("5 lost within", x, 3, "021");
        due("5 gained ahead", x.edit(3, 0, 1, 0, 2), 5);
        dueRow("5 gained ahead", x, 3, "20121");
        due("5 gained within", x.edit(3, 0, 1, 2, 0), 5);
        dueRow("5 gained within", x, 3, "01021");
        due("5 gained behind", x.edit(3, 0, 1, 4, 2), 5);
        dueRow("5 gained behind", x, 3, "01212");
        due("5 turned", x.edit(3, 0, 2, 2, 0), 4);
        dueRow("5 turned", x, 3, "0101");
        due("5 turned to itself", x.edit(3, 0, 2, 3, 1), 4);
        dueRow("5 turned to itself", x, 3, "0121");
        dueRow("5 t stays", x, 0, "0121");
        due("5 in place", x.edit(3, 3, 0, 1, 0), 3);
        dueRow("5 in place", x, 3, "021");
        due("5 of the empty", x.edit(4, 1, 1, 0, 2), 1);
        dueRow("5 of the empty", x, 4, "2");
        due("5 turned in 24", x.edit(4, 2, 2, 23, 1), 24);
        dueRow("5 turned in 24", x, 4, ZEROS.substring(1) + "1");
        due("5 lost of 24", x.edit(4, 2, 0, 23, 0), 23);
        due("5 gained to 24", x.edit(4, 4, 1, 23, 2), 24);
        dueRow("5 gained to 24", x, 4, ZEROS.substring(1) + "2");
        wrongEdits(x);
    }

    private static void wrongEdits(LostLetters x) {
        Check.put(x, 5, "11");
        due("5 far", x.edit(5, 2, 1, 0, 1), FAR);
        due("5 far behind", x.edit(5, 2, 1, 24, 1), FAR);
        due("5 far, yet bad", x.edit(5, 2, 1, 25, 1), BAD);
        due("5 far, yet no letter", x.edit(5, 2, 1, 0, 3), BAD);
        due("5 kind 3", x.edit(5, 0, 3, 0, 0), BAD);
        due("5 kind -1", x.edit(5, 0, -1, 0, 0), BAD);
        due("5 lost behind", x.edit(5, 0, 0, 4, 0), BAD);
        due("5 turned behind", x.edit(5, 0, 2, 4, 0), BAD);
        due("5 gained far behind", x.edit(5, 0, 1, 5, 0), BAD);
        due("5 lost of none", x.edit(5, 1, 0, 0, 0), BAD);
        for (int kind = 0; kind < 3; kind++) {
            due("5 place -1", x.edit(5, 0, kind, -1, 0), BAD);
            due("5 place far", x.edit(5, 0, kind, Integer.MAX_VALUE, 0), BAD);
            for (int s : NO_REGISTERS) {
                due("5 register " + s, x.edit(s, 0, kind, 0, 0), BAD);
                due("5 of register " + s, x.edit(5, s, kind, 0, 0), BAD);
            }
        }
        for (int kind = 1; kind < 3; kind++) {
            due("5 letter 3", x.edit(5, 0, kind, 0, 3), BAD);
            due("5 letter -1", x.edit(5, 0, kind, 0, -1), BAD);
        }
        dueRow("5 nothing changes", x, 5, "11");
        due("5 lost, the letter is not told", x.edit(5, 0, 0, 0, 9), 3);
    }

    private static void code() {
        LostLetters x = with(2);
        due("6 of 7", x.code(7, 8, 0, 0), 16);
        due("6 smallest", x.code(1, 1, 0, 0), 2);
        due("6 greatest", x.code(16, 1, 0, 0), 65536);
        due("6 has none", x.code(1, 64, 63, 0), 0);
        due("6 has none, yet stands", x.count(2), 1);
        due("6 b is not looked at", x.code(4, 5, 0, Integer.MIN_VALUE), 4);
        due("6 b is not looked at", x.code(4, 5, 0, 1), 4);
        wrongCodes(x);
        due("6 code stays", x.count(2), 4);
        Check.put(x, 0, "0110");
        due("6 code stays", x.isOf(0), 1);
        x.letters(3);
        due("6 of three", x.code(16, 64, 5, 2), 319480);
        due("6 b is a letter", x.code(16, 1, 0, 2), 14348907);
        due("6 b above", x.code(4, 5, 0, 3), BAD);
        due("6 b below", x.code(4, 5, 0, -1), BAD);
        wrongCodes(x);
        x.letters(4);
        due("6 of four", x.code(16, 1, 0, 3), 1 << 30);
        due("6 of four", x.code(8, 8, 2, 1), 2048);
        due("6 b above", x.code(4, 5, 0, 4), BAD);
        allWordsAreOfOneCode();
    }

    private static void wrongCodes(LostLetters x) {
        int[] extremes = {Integer.MIN_VALUE, -1, Integer.MAX_VALUE};
        for (int w : extremes) {
            due("6 n " + w, x.code(w, 5, 0, 0), BAD);
            due("6 m " + w, x.code(4, w, 0, 0), BAD);
            due("6 a " + w, x.code(4, 5, w, 0), BAD);
        }
        due("6 n 0", x.code(0, 5, 0, 0), BAD);
        due("6 n 17", x.code(17, 5, 0, 0), BAD);
        due("6 m 0", x.code(4, 0, 0, 0), BAD);
        due("6 m 65", x.code(4, 65, 0, 0), BAD);
        due("6 a m", x.code(4, 5, 5, 0), BAD);
    }

    private static void allWordsAreOfOneCode() {
        for (int q = 2; q <= 4; q++) {
            for (int m = 1; m <= 64; m += 9) {
                LostLetters x = with(q);
                long all = 0;
                for (int a = 0; a < m; a++) {
                    for (int b = 0; b < (q == 2 ? 1 : q); b++) {
                        all += x.code(16, m, a, b);
                    }
                }
                due("6 all codes of m " + m, all, q == 2 ? 1L << 16 : q == 3 ? 43046721L : 1L << 32);
            }
        }
    }

    private static void sum() {
        LostLetters x = with(2, "0111", "", "11111111" + "11111111" + "11111111");
        due("7 no code", x.sum(0), NO);
        noSuchRegister("7", x);
        x.code(3, 64, 0, 0);
        due("7 by places", x.sum(0), 9);
        due("7 empty", x.sum(1), 0);
        due("7 long", x.sum(2), 300 % 64);
        noSuchRegister("7", x);
        x.code(3, 5, 0, 0);
        due("7 modulo 5", x.sum(0), 4);
        x.code(3, 1, 0, 0);
        due("7 modulo 1", x.sum(0), 0);
        x.letters(3);
        x.code(3, 64, 0, 0);
        Check.put(x, 0, "0110212");
        due("7 not below", x.sum(0), 1 + 2 + 4 + 6);
        Check.put(x, 0, "2");
        due("7 one letter", x.sum(0), 0);
        Check.put(x, 0, ZEROS);
        due("7 all equal", x.sum(0), 276 % 64);
    }

    private static void noSuchRegister(String promise, LostLetters x) {
        for (int s : NO_REGISTERS) {
            due(promise + " sum of " + s, x.sum(s), BAD);
            due(promise + " isOf of " + s, x.isOf(s), BAD);
            due(promise + " listed of " + s, x.listed(s, 0), BAD);
            due(promise + " mend to " + s, x.mend(s, 0), BAD);
            due(promise + " mend of " + s, x.mend(0, s), BAD);
            due(promise + " near of " + s, x.near(s), BAD);
        }
    }

    private static void isOf() {
        LostLetters x = with(2, "1001", "0110", "1000", "10010", "");
        due("8 no code", x.isOf(0), NO);
        x.code(4, 5, 0, 1);
        int[] want = {1, 1, 0, 0, 0};
        for (int s = 0; s < 5; s++) {
            due("8 word " + s, x.isOf(s), want[s]);
        }
        x.letters(4);
        x.code(3, 4, 2, 1);
        Check.put(x, 0, "301");
        due("8 both sums", x.isOf(0), 0);
        Check.put(x, 0, "302");
        due("8 both sums", x.isOf(0), 1);
        Check.put(x, 0, "303");
        due("8 letters' sum", x.isOf(0), 0);
        Check.put(x, 0, "203");
        due("8 both sums", x.isOf(0), 1);
        noSuchRegister("8", x);
    }

    private static void listed() {
        LostLetters x = with(2);
        due("9 no code", x.listed(0, 0), NO);
        due("9 no code, yet bad", x.listed(0, -1), BAD);
        x.code(4, 5, 0, 0);
        String[] want = {"0000", "0110", "1001", "1111"};
        for (int i = 0; i < 4; i++) {
            due("9 listed " + i, x.listed(i, i), 4);
            dueRow("9 listed " + i, x, i, want[i]);
        }
        due("9 no such", x.listed(3, 4), NONE);
        due("9 no such", x.listed(3, Integer.MAX_VALUE), NONE);
        due("9 below", x.listed(3, -1), BAD);
        due("9 lowest", x.listed(3, Integer.MIN_VALUE), BAD);
        noSuchRegister("9", x);
        dueRow("9 nothing changes", x, 3, "1111");
        x.code(1, 64, 63, 0);
        due("9 none at all", x.listed(3, 0), NONE);
        x.letters(4);
        x.code(16, 1, 0, 0);
        due("9 last of all", x.listed(0, (1 << 30) - 1), 16);
        dueRow("9 last of all", x, 0, "3333333333333333");
        due("9 behind the last", x.listed(0, 1 << 30), NONE);
        x.code(8, 8, 2, 1);
        x.listed(0, 77);
        dueRow("9 of four", x, 0, "00201231");
        listedInOrder();
    }

    private static void listedInOrder() {
        for (int q = 2; q <= 4; q++) {
            LostLetters x = with(q);
            int size = x.code(5, 7, 3, 1);
            String before = "";
            for (int i = 0; i < size; i++) {
                x.listed(0, i);
                String now = Check.read(x, 0);
                due("9 " + now + " behind " + before, now.compareTo(before) > 0 ? 1 : 0, 1);
                due("9 " + now + " is of the code", x.isOf(0), 1);
                before = now;
            }
        }
    }

    private static void mend() {
        LostLetters x = with(2, "0110", "110", "01100", "0100", "00000", "0", "");
        due("10 no code", x.mend(7, 0), NO);
        x.code(4, 5, 0, 0);
        due("10 is one", x.mend(7, 0), 0);
        dueRow("10 is one", x, 7, "0110");
        due("10 one lost", x.mend(7, 1), 1);
        dueRow("10 one lost", x, 7, "0110");
        due("10 one gained", x.mend(8, 2), 1);
        dueRow("10 one gained", x, 8, "0110");
        due("10 none or several", x.mend(8, 3), NONE);
        due("10 too short", x.mend(8, 5), NONE);
        due("10 empty", x.mend(8, 6), NONE);
        dueRow("10 nothing changes", x, 8, "0110");
        due("10 all equal", x.mend(8, 4), 1);
        dueRow("10 all equal", x, 8, "0000");
        due("10 in place", x.mend(1, 1), 1);
        dueRow("10 in place", x, 1, "0110");
        noSuchRegister("10", x);
        x.code(4, 9, 0, 0);
        due("10 one turned", x.mend(9, 3), 1);
        dueRow("10 one turned", x, 9, "0000");
        x.code(1, 1, 0, 0);
        due("10 several of the empty", x.mend(9, 6), NONE);
        due("10 itself before others", x.mend(9, 5), 0);
        dueRow("10 itself before others", x, 9, "0");
        x.code(1, 64, 1, 0);
        due("10 one of the empty", x.mend(9, 6), 1);
        dueRow("10 one of the empty", x, 9, "1");
        oneLossOrGainIsMended();
    }

    /** What these codes are for: with m n + 1 (n for three or four letters) any one loss or gain is mended. */
    private static void oneLossOrGainIsMended() {
        int n = 6;
        for (int q = 2; q <= 4; q++) {
            int m = q == 2 ? n + 1 : n;
            int size = with(q).code(n, m, 2, 1);
            for (int w = 0; w < size; w++) {
                LostLetters x = with(q);
                x.code(n, m, 2, 1);
                x.listed(0, w);
                anyOneIsMended(x, q);
            }
        }
    }

    private static void anyOneIsMended(LostLetters x, int q) {
        String sent = Check.read(x, 0);
        for (int i = 0; i <= sent.length(); i++) {
            if (i < sent.length()) {
                x.edit(1, 0, 0, i, 0);
                due("10 " + sent + " without " + i, x.mend(2, 1), 1);
                dueRow("10 " + sent + " without " + i, x, 2, sent);
            }
            x.edit(1, 0, 1, i, q - 1);
            due("10 " + sent + " and one at " + i, x.mend(2, 1), 1);
            dueRow("10 " + sent + " and one at " + i, x, 2, sent);
        }
    }

    private static void near() {
        LostLetters x = with(2, "0110", "010", "00000", "0", "", "0111");
        due("11 no code", x.near(0), NO);
        x.code(4, 1, 0, 0);
        due("11 itself and all turned", x.near(0), 5);
        due("11 one lost", x.near(1), 5);
        due("11 one gained, of a run", x.near(2), 1);
        due("11 too short", x.near(3), 0);
        x.code(1, 1, 0, 0);
        due("11 of the empty", x.near(4), 2);
        due("11 too long", x.near(0), 0);
        x.code(4, 5, 0, 0);
        due("11 itself alone", x.near(0), 1);
        due("11 turned", x.near(5), 2);
        noSuchRegister("11", x);
        x.letters(4);
        Check.put(x, 0, "0000");
        x.code(5, 1, 0, 0);
        due("11 letters' sum", x.near(0), 1);
        x.code(5, 1, 0, 1);
        due("11 letters' sum", x.near(0), 5);
        x.code(16, 1, 0, 0);
        Check.put(x, 0, "012301230123012");
        due("11 16 letters", x.near(0), 16 - 3);
    }

    private static void liesIn() {
        LostLetters x = with(3, "", "012", "001122", "21", ZEROS, ZEROS.substring(12));
        due("12 empty in empty", x.liesIn(0, 0), 1);
        due("12 empty in any", x.liesIn(0, 1), 1);
        due("12 any in empty", x.liesIn(1, 0), 0);
        due("12 itself", x.liesIn(1, 1), 1);
        due("12 often", x.liesIn(1, 2), 8);
        due("12 longer", x.liesIn(2, 1), 0);
        due("12 other order", x.liesIn(3, 1), 0);
        due("12 half of 24", x.liesIn(5, 4), 2704156);
        due("12 all of 24", x.liesIn(4, 4), 1);
        for (int s : NO_REGISTERS) {
            due("12 " + s, x.liesIn(s, 0), BAD);
            due("12 in " + s, x.liesIn(0, s), BAD);
        }
    }

    private static void common() {
        LostLetters x = with(3, "", "012", "210", "0120120", "1021021", ZEROS);
        due("13 with the empty", x.common(6, 0, 1), 0);
        dueRow("13 with the empty", x, 6, "");
        due("13 first in order", x.common(6, 1, 2), 1);
        dueRow("13 first in order", x, 6, "0");
        due("13 itself", x.common(6, 3, 3), 7);
        dueRow("13 itself", x, 6, "0120120");
        due("13 first of several", x.common(6, 3, 4), 4);
        dueRow("13 first of several", x, 6, "0101");
        due("13 either way", x.common(7, 4, 3), 4);
        dueRow("13 either way", x, 7, "0101");
        due("13 24 letters", x.common(7, 5, 5), 24);
        dueRow("13 24 letters", x, 7, ZEROS);
        due("13 in place", x.common(1, 1, 2), 1);
        dueRow("13 in place", x, 1, "0");
        for (int s : NO_REGISTERS) {
            due("13 to " + s, x.common(s, 1, 2), BAD);
            due("13 of " + s, x.common(6, s, 2), BAD);
            due("13 and " + s, x.common(6, 1, s), BAD);
        }
        dueRow("13 nothing changes", x, 6, "0101");
        Check.put(x, 8, "2");
        due("13 nothing common", x.common(9, 8, 5), 0);
    }

    private static void commons() {
        LostLetters x = with(3, "", "012", "210", "0011", "1100", ZEROS,
                "010101010101010101010101", "101010101010101010101010");
        due("14 empty", x.commons(0, 0), 1);
        due("14 with the empty", x.commons(0, 1), 1);
        due("14 three of one letter", x.commons(1, 2), 3);
        due("14 two of two", x.commons(3, 4), 2);
        due("14 itself", x.commons(3, 3), 1);
        due("14 equal letters", x.commons(5, 5), 1);
        due("14 shifted", x.commons(6, 7), 2);
        for (int s : NO_REGISTERS) {
            due("14 of " + s, x.commons(s, 1), BAD);
            due("14 and " + s, x.commons(1, s), BAD);
        }
    }

    private static void between() {
        LostLetters x = with(4, "", "0123", "1230", "3210", ZEROS, ZEROS.replace('0', '1'));
        due("15 empty", x.between(0, 0, 0), 0);
        due("15 empty joined", x.between(0, 0, 1), 0);
        due("15 to the empty", x.between(1, 0, 0), 4);
        due("15 from the empty", x.between(0, 1, 0), 4);
        due("15 shifted", x.between(1, 2, 0), 2);
        due("15 shifted joined", x.between(1, 2, 1), 5);
        due("15 turned round", x.between(1, 3, 0), 4);
        due("15 turned round joined", x.between(1, 3, 1), 7);
        due("15 all turned", x.between(4, 5, 0), 24);
        due("15 all joined", x.between(4, 5, 1), 48);
        due("15 what 2", x.between(1, 2, 2), BAD);
        due("15 what -1", x.between(1, 2, -1), BAD);
        for (int s : NO_REGISTERS) {
            for (int what = 0; what < 2; what++) {
                due("15 from " + s, x.between(s, 1, what), BAD);
                due("15 to " + s, x.between(1, s, what), BAD);
            }
        }
    }

    private static void by() {
        LostLetters x = with(2, "", "0101", ZEROS, "010101010101010101010101");
        due("16 losing 0", x.by(1, 0, 0), 1);
        due("16 losing 1", x.by(1, 1, 0), 4);
        due("16 losing 2", x.by(1, 2, 0), 4);
        due("16 losing 3", x.by(1, 3, 0), 2);
        due("16 losing all", x.by(1, 4, 0), 1);
        due("16 losing more", x.by(1, 5, 0), 0);
        due("16 empty losing 0", x.by(0, 0, 0), 1);
        due("16 empty losing 1", x.by(0, 1, 0), 0);
        due("16 equal letters", x.by(2, 6, 0), 1);
        due("16 most parts", x.by(3, 6, 0), 31180);
        due("16 gaining 0", x.by(1, 0, 1), 1);
        due("16 gaining 1", x.by(1, 1, 1), 6);
        due("16 gaining 6", x.by(2, 6, 1), 768212);
        due("16 empty gaining 6", x.by(0, 6, 1), 64);
        due("16 n 7", x.by(1, 7, 0), BAD);
        due("16 n 7", x.by(1, 7, 1), BAD);
        due("16 n -1", x.by(1, -1, 0), BAD);
        due("16 n -1", x.by(1, -1, 1), BAD);
        due("16 what 2", x.by(1, 1, 2), BAD);
        due("16 what -1", x.by(1, 1, -1), BAD);
        for (int s : NO_REGISTERS) {
            due("16 of " + s, x.by(s, 1, 0), BAD);
            due("16 of " + s, x.by(s, 1, 1), BAD);
        }
        x.letters(4);
        Check.put(x, 0, ZEROS);
        due("16 greatest", x.by(0, 6, 1), 469824364L);
    }

    private static void trace() {
        LostLetters x = with(2, "01", "1");
        due("17 first", x.trace(0), 1);
        Check.put(x, 0, "111");
        due("17 stays as it was", x.sources(2), 1);
        for (int k = 2; k <= 8; k++) {
            due("17 trace " + k, x.trace(1), k);
        }
        due("17 full", x.trace(1), FULL);
        for (int s : NO_REGISTERS) {
            due("17 full, yet bad", x.trace(s), BAD);
        }
        due("17 nothing changes", x.count(1), 8);
        due("17 again", x.noTraces(), 8);
        for (int s : NO_REGISTERS) {
            due("17 bad", x.trace(s), BAD);
        }
        due("17 nothing changes", x.count(1), 0);
        due("17 empty", x.trace(11), 1);
    }

    private static void noTraces() {
        LostLetters x = with(2, "01");
        due("18 none", x.noTraces(), 0);
        x.trace(0);
        x.trace(0);
        due("18 two", x.noTraces(), 2);
        due("18 gone", x.count(1), 0);
        due("18 gone", x.sources(2), 4);
        due("18 none again", x.noTraces(), 0);
    }

    private static void sources() {
        int[] most = {12, 7, 6};
        int[] words = {4096, 2187, 4096};
        for (int q = 2; q <= 4; q++) {
            LostLetters x = with(q, "01", "", "0000000000000");
            due("19 all", x.sources(most[q - 2]), words[q - 2]);
            due("19 one letter", x.sources(1), q);
            due("19 too many", x.sources(most[q - 2] + 1), BAD);
            due("19 0", x.sources(0), BAD);
            due("19 below", x.sources(-1), BAD);
            due("19 13", x.sources(13), BAD);
            due("19 greatest", x.sources(Integer.MAX_VALUE), BAD);
            due("19 lowest", x.sources(Integer.MIN_VALUE), BAD);
            x.trace(1);
            due("19 of the empty", x.sources(3), q * q * q);
            x.trace(0);
            due("19 itself", x.sources(2), 1);
            due("19 one more", x.sources(3), 3 * q - 2);
            due("19 too short", x.sources(1), 0);
            x.trace(2);
            due("19 too long", x.sources(most[q - 2]), 0);
        }
        LostLetters x = with(2, "01", "10");
        x.trace(0);
        x.trace(1);
        due("19 of two", x.sources(2), 0);
        due("19 of two", x.sources(3), 2);
    }

    private static void best() {
        LostLetters x = with(2, "01", "10", "111111");
        due("20 of no traces", x.best(3, 12), 12);
        dueRow("20 of no traces", x, 3, "000000000000");
        x.trace(0);
        due("20 greatest", x.best(3, 6), 6);
        dueRow("20 greatest", x, 3, "000111");
        due("20 first of several", x.best(3, 3), 3);
        dueRow("20 first of several", x, 3, "001");
        x.trace(1);
        due("20 of two", x.best(3, 3), 3);
        dueRow("20 of two", x, 3, "010");
        due("20 none", x.best(3, 2), NONE);
        due("20 too long", x.best(3, 1), NONE);
        dueRow("20 nothing changes", x, 3, "010");
        int[] wrong = {0, -1, 13, Integer.MIN_VALUE, Integer.MAX_VALUE};
        for (int n : wrong) {
            due("20 n " + n, x.best(3, n), BAD);
        }
        for (int s : NO_REGISTERS) {
            due("20 to " + s, x.best(s, 3), BAD);
            due("20 none, yet bad", x.best(s, 2), BAD);
        }
        x.letters(3);
        due("20 too many", x.best(3, 8), BAD);
        x.letters(4);
        due("20 too many", x.best(3, 7), BAD);
        due("20 most", x.best(3, 6), 6);
        productsAboveTheBound();
    }

    /** Nine letters 1 hold the trace 84 times, and 84 to the eighth is above the bound: the first such word is best. */
    private static void productsAboveTheBound() {
        String[] five = {"111111", "111111", "111111", "111111", "111111"};
        bestOfTwelve("five are below the bound", five, "111111111111");
        String[] eight = {"111111", "111111", "111111", "111111", "111111", "111111", "111111", "111111"};
        bestOfTwelve("eight are above it", eight, "000111111111");
        String[] below = {"1111", "11110", "11110", "000", "11010", "111111", "1101", "11110"};
        bestOfTwelve("883 million millions are greater than 831", below, "111111101100");
        String[] above = {"0000", "01000", "10000", "1000", "10101", "0000", "000", "00100"};
        bestOfTwelve("950 are below it, 1055 and 1162 count alike", above, "100010001000");
    }

    private static void bestOfTwelve(String what, String[] traces, String want) {
        LostLetters x = with(2);
        for (String t : traces) {
            Check.put(x, 0, t);
            x.trace(0);
        }
        due("20 " + what, x.best(3, 12), 12);
        dueRow("20 " + what, x, 3, want);
    }

    private static void line() {
        LostLetters x = with(2, "0101");
        due("21 nothing", x.line(0, 0, 0), 0);
        due("21 all losses", x.line(64, 0, 0), 0);
        due("21 all gains", x.line(0, 64, 0), 0);
        due("21 all turns", x.line(0, 0, 64), 0);
        due("21 together 64", x.line(20, 22, 22), 0);
        x.line(0, 0, 64);
        due("21 together 65", x.line(21, 22, 22), BAD);
        due("21 above", x.line(65, 0, 0), BAD);
        due("21 above", x.line(0, 65, 0), BAD);
        due("21 above", x.line(0, 0, 65), BAD);
        due("21 below", x.line(-1, 0, 0), BAD);
        due("21 below", x.line(0, -1, 2), BAD);
        due("21 below", x.line(0, 0, -1), BAD);
        due("21 wraps round", x.line(Integer.MAX_VALUE, Integer.MAX_VALUE, 2), BAD);
        due("21 wraps round", x.line(1 << 30, 1 << 30, Integer.MIN_VALUE), BAD);
        x.send(1, 0);
        dueRow("21 nothing changes", x, 1, "1010");
    }

    private static void seed() {
        LostLetters x = with(4, "01230123");
        x.line(16, 16, 16);
        long[] seeds = {0, 1, 281474976710655L, 281474976710656L, Long.MAX_VALUE};
        for (long v : seeds) {
            due("22 seed " + v, x.seed(v), 0);
            Model m = new Model();
            m.letters(4);
            m.word(0, 8, Check.bits("01230123"));
            m.line(16, 16, 16);
            m.seed(v);
            due("22 send with " + v, x.send(1, 0), m.send(1, 0));
            dueRow("22 send with " + v, x, 1, m.register(1));
            due("22 below", x.seed(-1), BAD);
            due("22 lowest", x.seed(Long.MIN_VALUE), BAD);
            due("22 nothing changes", x.send(1, 0), m.send(1, 0));
            dueRow("22 nothing changes", x, 1, m.register(1));
        }
    }

    private static void send() {
        LostLetters x = with(3, "012012", ZEROS, "0120120120120");
        x.line(64, 0, 0);
        due("23 all lost", x.send(3, 0), 0);
        dueRow("23 all lost", x, 3, "");
        x.line(0, 64, 0);
        due("23 one with each", x.send(3, 0), 12);
        Check.put(x, 4, "11");
        due("23 far", x.send(4, 1), FAR);
        due("23 far by two", x.send(4, 2), FAR);
        dueRow("23 nothing changes", x, 4, "11");
        for (int s : NO_REGISTERS) {
            due("23 to " + s, x.send(s, 1), BAD);
            due("23 of " + s, x.send(4, s), BAD);
        }
        x.line(0, 0, 0);
        due("23 in place", x.send(0, 0), 6);
        dueRow("23 in place", x, 0, "012012");
        due("23 empty", x.send(4, 11), 0);
        seedStaysWhenFar();
        playedByHand();
    }

    private static void seedStaysWhenFar() {
        LostLetters x = with(2, ZEROS, "01010101");
        LostLetters y = with(2, ZEROS, "01010101");
        x.line(0, 64, 0);
        due("23 far", x.send(2, 0), FAR);
        x.line(21, 21, 21);
        y.line(21, 21, 21);
        due("23 seed stays", x.send(2, 1), y.send(2, 1));
        dueRow("23 seed stays", x, 2, Check.read(y, 2));
    }

    /** From seed 5 on, v is 0, 41, 12, 10. */
    private static void playedByHand() {
        LostLetters x = with(4, "0123");
        played(x, 0, 0, 0, "0123");
        played(x, 0, 0, 64, "1031");
        played(x, 0, 64, 0, "00110223");
        played(x, 64, 0, 0, "");
        played(x, 11, 30, 23, "002");
        played(x, 10, 31, 0, "10223");
        played(x, 11, 31, 0, "1102");
        played(x, 1, 0, 41, "031");
        played(x, 0, 0, 41, "1131");
        x.seed(5);
        x.line(0, 0, 64);
        Check.put(x, 2, "01");
        Check.put(x, 3, "23");
        x.send(2, 2);
        x.send(3, 3);
        dueRow("23 seed goes on", x, 2, "10");
        dueRow("23 seed goes on", x, 3, "31");
    }

    private static void played(LostLetters x, int losses, int gains, int turns, String want) {
        x.seed(5);
        x.line(losses, gains, turns);
        String call = "23 line(" + losses + ", " + gains + ", " + turns + ")";
        due(call, x.send(1, 0), want.length());
        dueRow(call, x, 1, want);
    }

    private static void count() {
        LostLetters x = with(3, "012", "1");
        Check.put(x, 11, ZEROS);
        x.trace(0);
        x.trace(1);
        due("24 code, none", x.count(2), 0);
        x.code(9, 5, 0, 0);
        due("24 q", x.count(0), 3);
        due("24 traces", x.count(1), 2);
        due("24 code", x.count(2), 9);
        due("24 letters", x.count(3), 28);
        int[] wrong = {-1, 4, Integer.MIN_VALUE, Integer.MAX_VALUE};
        for (int what : wrong) {
            due("24 what " + what, x.count(what), BAD);
        }
    }
}
