import java.util.ArrayList;
import java.util.HashMap;
import java.util.List;
import java.util.Map;
import java.util.Random;
import java.util.TreeSet;

/** Long words and great codes, where the model cannot follow: other ways of counting beside the class's own. */
public final class LongTest {
    private static final Check check = new Check("LongTest");
    private static final Random random = new Random(2026);

    public static void main(String[] args) {
        for (int q = 2; q <= 4; q++) {
            for (int k = 0; k < 30; k++) {
                pair(q, word(q, 20 + random.nextInt(5)), word(q, 20 + random.nextInt(5)));
            }
            pair(q, word(q, 24), "");
            pair(q, "010101010101010101010101", "101010101010101010101010");
            for (int k = 0; k < 6; k++) {
                losing(q, word(q, 24));
            }
            gaining(q);
            lines(q);
        }
        for (int m = 1; m <= 64; m += 7) {
            codes(2, 16, m);
            codes(3, 10, m);
            codes(4, 8, m);
        }
        check.end();
    }

    private static LostLetters with(int q) {
        LostLetters x = new LostLetters();
        check.due("letters(" + q + ")", x.letters(q), 0);
        return x;
    }

    private static String word(int q, int n) {
        StringBuilder text = new StringBuilder();
        for (int i = 0; i < n; i++) {
            text.append(random.nextInt(q));
        }
        return text.toString();
    }

    private static void pair(int q, String t, String u) {
        LostLetters x = with(q);
        Check.put(x, 0, t);
        Check.put(x, 1, u);
        TreeSet<String> all = longest(t, u, new HashMap<>());
        String first = all.first();
        String call = t + " and " + u;
        check.due(call + " common", x.common(2, 0, 1), first.length());
        check.due(call + " common", Check.read(x, 2), first);
        check.due(call + " commons", x.commons(0, 1), all.size());
        check.due(call + " joined", x.between(0, 1, 1), t.length() + u.length() - first.length());
        check.due(call + " edits", x.between(0, 1, 0), edits(t, u));
        check.due(call + " lies in", x.liesIn(2, 0), often(first, t, new HashMap<>()));
        check.due(call + " lies in", x.liesIn(2, 1), often(first, u, new HashMap<>()));
    }

    private static TreeSet<String> longest(String t, String u, Map<String, TreeSet<String>> known) {
        String key = t.length() + "," + u.length();
        TreeSet<String> all = known.get(key);
        if (all != null) {
            return all;
        }
        all = new TreeSet<>();
        if (t.isEmpty() || u.isEmpty()) {
            all.add("");
        } else if (t.charAt(0) == u.charAt(0)) {
            for (String rest : longest(t.substring(1), u.substring(1), known)) {
                all.add(t.charAt(0) + rest);
            }
        } else {
            TreeSet<String> some = longest(t.substring(1), u, known);
            TreeSet<String> others = longest(t, u.substring(1), known);
            if (some.first().length() >= others.first().length()) {
                all.addAll(some);
            }
            if (others.first().length() >= some.first().length()) {
                all.addAll(others);
            }
        }
        known.put(key, all);
        return all;
    }

    private static int edits(String t, String u) {
        int[] row = new int[u.length() + 1];
        for (int j = 0; j <= u.length(); j++) {
            row[j] = j;
        }
        for (int i = 1; i <= t.length(); i++) {
            int corner = row[0];
            row[0] = i;
            for (int j = 1; j <= u.length(); j++) {
                int turned = corner + (t.charAt(i - 1) == u.charAt(j - 1) ? 0 : 1);
                corner = row[j];
                row[j] = Math.min(turned, 1 + Math.min(row[j], row[j - 1]));
            }
        }
        return row[u.length()];
    }

    private static long often(String part, String whole, Map<String, Long> known) {
        if (part.isEmpty() || whole.length() < part.length()) {
            return part.isEmpty() ? 1 : 0;
        }
        String key = part.length() + "," + whole.length();
        Long before = known.get(key);
        if (before != null) {
            return before;
        }
        long all = often(part, whole.substring(1), known);
        if (part.charAt(0) == whole.charAt(0)) {
            all += often(part.substring(1), whole.substring(1), known);
        }
        known.put(key, all);
        return all;
    }

    private static void losing(int q, String t) {
        LostLetters x = with(q);
        Check.put(x, 0, t);
        TreeSet<String> all = new TreeSet<>(List.of(t));
        for (int n = 0; n <= 6; n++) {
            check.due(t + " by losing " + n, x.by(0, n, 0), all.size());
            TreeSet<String> shorter = new TreeSet<>();
            for (String w : all) {
                for (int i = 0; i < w.length(); i++) {
                    shorter.add(w.substring(0, i) + w.substring(i + 1));
                }
            }
            all = shorter;
        }
    }

    private static void gaining(int q) {
        LostLetters x = with(q);
        for (int length = 0; length <= 24; length++) {
            Check.put(x, 0, word(q, length));
            for (int n = 0; n <= 6; n++) {
                check.due("by gaining of " + length + ", " + n, x.by(0, n, 1), having(q, length, n));
            }
        }
    }

    /** The first letter is the word's own first, or another one. */
    private static long having(int q, int length, int more) {
        if (length == 0) {
            return more == 0 ? 1 : q * having(q, 0, more - 1);
        }
        return having(q, length - 1, more) + (more == 0 ? 0 : (q - 1) * having(q, length, more - 1));
    }

    /** Runs of sixteen, so that the seed goes on from word to word and yet no object has more than 512 calls. */
    private static void lines(int q) {
        for (int run = 0; run < 25; run++) {
            LostLetters x = with(q);
            Model m = new Model();
            m.letters(q);
            long seed = random.nextLong() >>> 1;
            check.due("seed(" + seed + ")", x.seed(seed), m.seed(seed));
            for (int k = 0; k < 16; k++) {
                sent(x, m, word(q, 15 + random.nextInt(10)));
            }
        }
    }

    private static void sent(LostLetters x, Model m, String t) {
        int losses = random.nextInt(30), gains = random.nextInt(30), turns = random.nextInt(5);
        check.due("line", x.line(losses, gains, turns), m.line(losses, gains, turns));
        Check.put(x, 0, t);
        m.word(0, t.length(), Check.bits(t));
        check.due(t + " sent", x.send(1, 0), m.send(1, 0));
        check.due(t + " sent", Check.read(x, 1), m.register(1));
    }

    private static void codes(int q, int n, int m) {
        int a = random.nextInt(m), b = random.nextInt(q);
        List<String> all = codeWords(q, n, m, a, b);
        TreeSet<String> known = new TreeSet<>(all);
        String call = "code(" + n + ", " + m + ", " + a + ", " + b + ")";
        for (int round = 0; round < 4; round++) {
            LostLetters x = with(q);
            check.due(call, x.code(n, m, a, b), all.size());
            check.due(call + " behind the last", x.listed(0, all.size()), -4);
            for (int k = 0; k < 10 && !all.isEmpty(); k++) {
                int i = k == 0 ? 0 : k == 1 ? all.size() - 1 : random.nextInt(all.size());
                check.due(call + " listed " + i, x.listed(0, i), n);
                check.due(call + " listed " + i, Check.read(x, 0), all.get(i));
            }
            for (int k = 0; k < 10; k++) {
                mended(x, q, known, word(q, n - 1 + random.nextInt(3)));
            }
        }
    }

    private static List<String> codeWords(int q, int n, int m, int a, int b) {
        List<String> all = new ArrayList<>();
        int[] w = new int[n];
        boolean more = true;
        while (more) {
            if (isOf(w, q, m, a, b)) {
                StringBuilder text = new StringBuilder();
                for (int l : w) {
                    text.append(l);
                }
                all.add(text.toString());
            }
            int i = n - 1;
            while (i >= 0 && w[i] == q - 1) {
                w[i] = 0;
                i--;
            }
            more = i >= 0;
            if (more) {
                w[i]++;
            }
        }
        return all;
    }

    private static boolean isOf(int[] w, int q, int m, int a, int b) {
        int sum = 0;
        int letters = 0;
        for (int i = 0; i < w.length; i++) {
            letters += w[i];
            if (q == 2) {
                sum += (i + 1) * w[i];
            } else if (i > 0 && w[i] >= w[i - 1]) {
                sum += i;
            }
        }
        return sum % m == a && (q == 2 || letters % q == b);
    }

    private static void mended(LostLetters x, int q, TreeSet<String> code, String t) {
        TreeSet<String> near = new TreeSet<>();
        for (int i = 0; i <= t.length(); i++) {
            for (int l = 0; l < q; l++) {
                near.add(t.substring(0, i) + l + t.substring(i));
                if (i < t.length()) {
                    near.add(t.substring(0, i) + l + t.substring(i + 1));
                    near.add(t.substring(0, i) + t.substring(i + 1));
                }
            }
        }
        near.retainAll(code);
        Check.put(x, 1, t);
        Check.put(x, 2, "01");
        check.due("near " + t, x.near(1), near.size());
        boolean isOne = code.contains(t);
        check.due("mend " + t, x.mend(2, 1), isOne ? 0 : near.size() == 1 ? 1 : -4);
        check.due("mend " + t, Check.read(x, 2), isOne ? t : near.size() == 1 ? near.first() : "01");
    }
}
