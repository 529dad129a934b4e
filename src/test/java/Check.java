/** Counts the answers that are not as due, and writes and reads words as texts of digits. */
final class Check {
    private final String name;
    private int looked = 0;
    private int wrong = 0;

    Check(String name) {
        this.name = name;
    }

    void due(String call, long got, long want) {
        looked++;
        if (got != want) {
            wrong++;
            System.out.println(name + ": " + call + " answered " + got + ", due is " + want);
        }
    }

    void due(String call, String got, String want) {
        looked++;
        if (!got.equals(want)) {
            wrong++;
            System.out.println(name + ": " + call + " is \"" + got + "\", due is \"" + want + "\"");
        }
    }

    boolean hasWrong() {
        return wrong != 0;
    }

    void end() {
        System.out.println(name + ": " + wrong + " of " + looked + " answers are not as due");
        if (wrong != 0) {
            System.exit(1);
        }
    }

    static long bits(String letters) {
        long bits = 0;
        for (int i = letters.length() - 1; i >= 0; i--) {
            bits = bits << 2 | letters.charAt(i) - '0';
        }
        return bits;
    }

    static void put(LostLetters x, int s, String letters) {
        if (x.word(s, letters.length(), bits(letters)) != letters.length()) {
            throw new IllegalStateException("word " + letters + " was refused");
        }
    }

    static String read(LostLetters x, int s) {
        StringBuilder text = new StringBuilder();
        int n = x.at(s, -1);
        for (int i = 0; i < n; i++) {
            text.append(x.at(s, i));
        }
        return text.toString();
    }
}
