import java.math.BigInteger;
import java.util.ArrayList;
import java.util.List;
import java.util.TreeSet;

/** The document word by word, in its dearest form: everything is enumerated. For short words only. */
final class Model {
    private static final int BAD = -1, NO = -2, FULL = -3, NONE = -4, FAR = -5;

    private int q = 2;
    private final String[] registers = new String[12];
    private final List<String> traces = new ArrayList<>();
    private int n, m, a, b;
    private int losses, gains, turns;
    private BigInteger seed = BigInteger.ONE;

    Model() {
        java.util.Arrays.fill(registers, "");
    }

    String register(int s) {
        return registers[s];
    }

    int codeLength() {
        return n;
    }

    private static boolean bad(int... ss) {
        for (int s : ss) {
            if (s < 0 || s > 11) {
                return true;
            }
        }
        return false;
    }

    private static boolean out(int low, int v, int high) {
        return v < low || v > high;
    }

    private List<String> words(int length) {
        List<String> all = new ArrayList<>();
        all.add("");
        for (int i = 0; i < length; i++) {
            List<String> longer = new ArrayList<>();
            for (String w : all) {
                for (int l = 0; l < q; l++) {
                    longer.add(w + l);
                }
            }
            all = longer;
        }
        return all;
    }

    int letters(int q) {
        if (out(2, q, 4)) {
            return BAD;
        }
        this.q = q;
        java.util.Arrays.fill(registers, "");
        n = 0;
        traces.clear();
        return 0;
    }

    int word(int s, int n, long row) {
        if (bad(s) || out(0, n, 24)) {
            return BAD;
        }
        StringBuilder w = new StringBuilder();
        long rest = row;
        for (int i = 0; i < n; i++) {
            long l = Math.floorMod(rest, 4L);
            if (l >= q) {
                return BAD;
            }
            w.append(l);
            rest = Math.floorDiv(rest, 4L);
        }
        if (rest != 0) {
            return BAD;
        }
        registers[s] = w.toString();
        return n;
    }

    int at(int s, int i) {
        if (bad(s) || i < -1) {
            return BAD;
        }
        String w = registers[s];
        return i == -1 ? w.length() : i < w.length() ? w.charAt(i) - '0' : NONE;
    }

    int edit(int s, int t, int kind, int i, int l) {
        if (bad(s, t) || out(0, kind, 2)) {
            return BAD;
        }
        String w = registers[t];
        if (out(0, i, kind == 1 ? w.length() : w.length() - 1) || kind != 0 && out(0, l, q - 1)) {
            return BAD;
        }
        String r = w.substring(0, i) + (kind == 0 ? "" : "" + l) + w.substring(kind == 1 ? i : i + 1);
        if (r.length() > 24) {
            return FAR;
        }
        registers[s] = r;
        return r.length();
    }

    private int wholeSum(String w) {
        int all = 0;
        for (int i = 1; i <= w.length(); i++) {
            if (q == 2) {
                all += i * (w.charAt(i - 1) - '0');
            } else if (i >= 2 && w.charAt(i - 1) >= w.charAt(i - 2)) {
                all += i - 1;
            }
        }
        return all;
    }

    private boolean ofCode(String w) {
        int letterSum = 0;
        for (char c : w.toCharArray()) {
            letterSum += c - '0';
        }
        return w.length() == n && wholeSum(w) % m == a && (q == 2 || letterSum % q == b);
    }

    private List<String> codeWords() {
        List<String> all = new ArrayList<>();
        for (String w : words(n)) {
            if (ofCode(w)) {
                all.add(w);
            }
        }
        return all;
    }

    int code(int n, int m, int a, int b) {
        if (out(1, n, 16) || out(1, m, 64) || out(0, a, m - 1) || q != 2 && out(0, b, q - 1)) {
            return BAD;
        }
        this.n = n;
        this.m = m;
        this.a = a;
        this.b = b;
        return codeWords().size();
    }

    int sum(int s) {
        return bad(s) ? BAD : n == 0 ? NO : wholeSum(registers[s]) % m;
    }

    int isOf(int s) {
        return bad(s) ? BAD : n == 0 ? NO : ofCode(registers[s]) ? 1 : 0;
    }

    int listed(int s, int i) {
        if (bad(s) || i < 0) {
            return BAD;
        }
        if (n == 0) {
            return NO;
        }
        List<String> all = codeWords();
        if (i >= all.size()) {
            return NONE;
        }
        registers[s] = all.get(i);
        return n;
    }

    /** All that comes of a word by no or one edit. */
    private TreeSet<String> around(String w) {
        TreeSet<String> all = new TreeSet<>();
        all.add(w);
        for (int i = 0; i <= w.length(); i++) {
            for (int l = 0; l < q; l++) {
                all.add(w.substring(0, i) + l + w.substring(i));
                if (i < w.length()) {
                    all.add(w.substring(0, i) + l + w.substring(i + 1));
                    all.add(w.substring(0, i) + w.substring(i + 1));
                }
            }
        }
        return all;
    }

    private List<String> cameTo(String t) {
        List<String> all = new ArrayList<>();
        for (String c : codeWords()) {
            if (around(c).contains(t)) {
                all.add(c);
            }
        }
        return all;
    }

    int mend(int s, int t) {
        if (bad(s, t)) {
            return BAD;
        }
        if (n == 0) {
            return NO;
        }
        List<String> all = cameTo(registers[t]);
        if (all.contains(registers[t])) {
            registers[s] = registers[t];
            return 0;
        }
        if (all.size() != 1) {
            return NONE;
        }
        registers[s] = all.get(0);
        return 1;
    }

    int near(int t) {
        return bad(t) ? BAD : n == 0 ? NO : cameTo(registers[t]).size();
    }

    private static long often(String part, String whole) {
        if (part.isEmpty()) {
            return 1;
        }
        if (part.length() > whole.length()) {
            return 0;
        }
        long without = often(part, whole.substring(1));
        return part.charAt(0) == whole.charAt(0) ? without + often(part.substring(1), whole.substring(1)) : without;
    }

    long liesIn(int s, int t) {
        return bad(s, t) ? BAD : often(registers[s], registers[t]);
    }

    private static TreeSet<String> parts(String w) {
        TreeSet<String> all = new TreeSet<>();
        for (int chosen = 0; chosen < 1 << w.length(); chosen++) {
            StringBuilder part = new StringBuilder();
            for (int i = 0; i < w.length(); i++) {
                if ((chosen >> i & 1) == 1) {
                    part.append(w.charAt(i));
                }
            }
            all.add(part.toString());
        }
        return all;
    }

    private List<String> longestOfBoth(int t, int u) {
        TreeSet<String> both = parts(registers[t]);
        both.retainAll(parts(registers[u]));
        int length = 0;
        for (String w : both) {
            length = Math.max(length, w.length());
        }
        List<String> all = new ArrayList<>();
        for (String w : both) {
            if (w.length() == length) {
                all.add(w);
            }
        }
        return all;
    }

    int common(int s, int t, int u) {
        if (bad(s, t, u)) {
            return BAD;
        }
        registers[s] = longestOfBoth(t, u).get(0);
        return registers[s].length();
    }

    long commons(int t, int u) {
        return bad(t, u) ? BAD : longestOfBoth(t, u).size();
    }

    private static int far(String t, String u, boolean joined) {
        if (t.isEmpty() || u.isEmpty()) {
            return t.length() + u.length();
        }
        if (t.charAt(0) == u.charAt(0)) {
            return far(t.substring(1), u.substring(1), joined) + (joined ? 1 : 0);
        }
        int least = Math.min(far(t.substring(1), u, joined), far(t, u.substring(1), joined));
        return 1 + (joined ? least : Math.min(least, far(t.substring(1), u.substring(1), false)));
    }

    int between(int t, int u, int what) {
        return bad(t, u) || out(0, what, 1) ? BAD : far(registers[t], registers[u], what == 1);
    }

    long by(int t, int n, int what) {
        if (bad(t) || out(0, n, 6) || out(0, what, 1)) {
            return BAD;
        }
        String w = registers[t];
        long all = 0;
        if (what == 0) {
            for (String part : parts(w)) {
                all += part.length() == w.length() - n ? 1 : 0;
            }
        } else {
            for (String whole : words(w.length() + n)) {
                all += often(w, whole) > 0 ? 1 : 0;
            }
        }
        return all;
    }

    int trace(int s) {
        if (bad(s)) {
            return BAD;
        }
        if (traces.size() == 8) {
            return FULL;
        }
        traces.add(registers[s]);
        return traces.size();
    }

    int noTraces() {
        int before = traces.size();
        traces.clear();
        return before;
    }

    private boolean badSource(int n) {
        return out(1, n, 12) || Math.pow(q, n) > 4096;
    }

    private BigInteger product(String w) {
        BigInteger all = BigInteger.ONE;
        for (String t : traces) {
            all = all.multiply(BigInteger.valueOf(often(t, w)));
        }
        return all.min(BigInteger.valueOf(1000000000000000L));
    }

    int sources(int n) {
        if (badSource(n)) {
            return BAD;
        }
        int all = 0;
        for (String w : words(n)) {
            all += product(w).signum();
        }
        return all;
    }

    int best(int s, int n) {
        if (bad(s) || badSource(n)) {
            return BAD;
        }
        String best = null;
        BigInteger greatest = BigInteger.ZERO;
        for (String w : words(n)) {
            if (product(w).compareTo(greatest) > 0) {
                greatest = product(w);
                best = w;
            }
        }
        if (best == null) {
            return NONE;
        }
        registers[s] = best;
        return n;
    }

    int line(int losses, int gains, int turns) {
        if (losses < 0 || gains < 0 || turns < 0 || (long) losses + gains + turns > 64) {
            return BAD;
        }
        this.losses = losses;
        this.gains = gains;
        this.turns = turns;
        return 0;
    }

    int seed(long v) {
        if (v < 0) {
            return BAD;
        }
        seed = BigInteger.valueOf(v);
        return 0;
    }

    int send(int s, int t) {
        if (bad(s, t)) {
            return BAD;
        }
        BigInteger now = seed;
        StringBuilder r = new StringBuilder();
        for (char c : registers[t].toCharArray()) {
            now = now.multiply(BigInteger.valueOf(25214903917L)).add(BigInteger.valueOf(11))
                    .mod(BigInteger.TWO.pow(48));
            int v = now.divide(BigInteger.TWO.pow(42)).intValueExact();
            if (v < losses) {
                continue;
            } else if (v < losses + gains) {
                r.append(v % q).append(c);
            } else if (v < losses + gains + turns) {
                r.append((c - '0' + v % (q - 1) + 1) % q);
            } else {
                r.append(c);
            }
        }
        if (r.length() > 24) {
            return FAR;
        }
        seed = now;
        registers[s] = r.toString();
        return r.length();
    }

    int count(int what) {
        int all = 0;
        for (String w : registers) {
            all += w.length();
        }
        int[] counts = {q, traces.size(), n, all};
        return out(0, what, 3) ? BAD : counts[what];
    }
}
