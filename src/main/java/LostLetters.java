/**
 * Letters lost and gained: rows sent over a line that drops, adds and turns letters, codes that mend
 * one such, and what was sent by several traces of it. README.md says how to use it.
 */
public final class LostLetters {
    public static final int BAD = -1, NO = -2, FULL = -3, NONE = -4, FAR = -5;

    private static final int REGISTERS = 12;
    private static final int LEAST_Q = 2;
    private static final int MOST_Q = 4;
    private static final int MOST_LETTERS = 24;
    private static final int MOST_CODE_LETTERS = 16;
    private static final int MOST_MODULUS = 64;
    private static final int MOST_STEPS = 6;
    private static final int MOST_TRACES = 8;
    private static final int MOST_SOURCE_LETTERS = 12;
    private static final int MOST_SOURCES = 4096;
    private static final int MOST_CHANCES = 64;

    private final Row[] registers;
    private final Code theCode;
    private final Parts parts;
    private final Pair pair;
    private final Traces traces;
    private final Line theLine;
    private int q;

    public LostLetters() {
        q = LEAST_Q;
        registers = new Row[REGISTERS];
        for (int s = 0; s < REGISTERS; s++) {
            registers[s] = new Row();
        }
        theCode = new Code();
        parts = new Parts();
        pair = new Pair();
        traces = new Traces();
        theLine = new Line();
    }

    public int letters(int q) {
        if (q < LEAST_Q || q > MOST_Q) {
            return BAD;
        }
        this.q = q;
        for (int s = 0; s < REGISTERS; s++) {
            registers[s].clear();
        }
        theCode.forget();
        traces.forget();
        return 0;
    }

    public int word(int s, int n, long row) {
        if (!isRegister(s) || n < 0 || n > MOST_LETTERS || !isRow(n, row)) {
            return BAD;
        }
        registers[s].put(n, row);
        return n;
    }

    public int at(int s, int i) {
        if (!isRegister(s) || i < -1) {
            return BAD;
        }
        Row row = registers[s];
        if (i == -1) {
            return row.size;
        }
        return i < row.size ? row.letter(i) : NONE;
    }

    public int edit(int s, int t, int kind, int i, int l) {
        if (!isRegister(s) || !isRegister(t) || !isEdit(registers[t], kind, i, l)) {
            return BAD;
        }
        if (kind == 1 && registers[t].isFull()) {
            return FAR;
        }
        Row row = registers[s];
        row.become(registers[t]);
        if (kind == 0) {
            row.lose(i);
        } else if (kind == 1) {
            row.gain(i, l);
        } else {
            row.turn(i, l);
        }
        return row.size;
    }

    public int code(int n, int m, int a, int b) {
        boolean told = n >= 1 && n <= MOST_CODE_LETTERS && m >= 1 && m <= MOST_MODULUS && a >= 0 && a < m;
        if (!told || q != 2 && !isLetter(b)) {
            return BAD;
        }
        theCode.tell(q, n, m, a, b);
        return theCode.size;
    }

    public int sum(int s) {
        if (!isRegister(s)) {
            return BAD;
        }
        return theCode.stands() ? theCode.sumOf(registers[s]) : NO;
    }

    public int isOf(int s) {
        if (!isRegister(s)) {
            return BAD;
        }
        if (!theCode.stands()) {
            return NO;
        }
        return theCode.holds(registers[s]) ? 1 : 0;
    }

    public int listed(int s, int i) {
        if (!isRegister(s) || i < 0) {
            return BAD;
        }
        if (!theCode.stands()) {
            return NO;
        }
        if (i >= theCode.size) {
            return NONE;
        }
        theCode.write(i, registers[s]);
        return registers[s].size;
    }

    public int mend(int s, int t) {
        if (!isRegister(s) || !isRegister(t)) {
            return BAD;
        }
        if (!theCode.stands()) {
            return NO;
        }
        if (theCode.holds(registers[t])) {
            registers[s].become(registers[t]);
            return 0;
        }
        if (theCode.neighbours(registers[t]) != 1) {
            return NONE;
        }
        registers[s].become(theCode.found);
        return 1;
    }

    public int near(int t) {
        if (!isRegister(t)) {
            return BAD;
        }
        if (!theCode.stands()) {
            return NO;
        }
        return theCode.neighbours(registers[t]) + (theCode.holds(registers[t]) ? 1 : 0);
    }

    public long liesIn(int s, int t) {
        if (!isRegister(s) || !isRegister(t)) {
            return BAD;
        }
        return parts.howOften(registers[s], registers[t]);
    }

    public int common(int s, int t, int u) {
        if (!isRegister(s) || !isRegister(t) || !isRegister(u)) {
            return BAD;
        }
        int length = pair.longest(registers[t], registers[u]);
        registers[s].become(pair.firstLongest(registers[t], registers[u], q));
        return length;
    }

    public long commons(int t, int u) {
        if (!isRegister(t) || !isRegister(u)) {
            return BAD;
        }
        pair.longest(registers[t], registers[u]);
        return pair.howManyLongest(registers[t], registers[u], q);
    }

    public int between(int t, int u, int what) {
        if (!isRegister(t) || !isRegister(u) || !isEither(what)) {
            return BAD;
        }
        if (what == 0) {
            return pair.edits(registers[t], registers[u]);
        }
        return registers[t].size + registers[u].size - pair.longest(registers[t], registers[u]);
    }

    public long by(int t, int n, int what) {
        if (!isRegister(t) || n < 0 || n > MOST_STEPS || !isEither(what)) {
            return BAD;
        }
        return what == 0 ? parts.byLosing(registers[t], n, q) : parts.byGaining(registers[t], n, q);
    }

    public int trace(int s) {
        if (!isRegister(s)) {
            return BAD;
        }
        if (traces.size == MOST_TRACES) {
            return FULL;
        }
        traces.keep(registers[s]);
        return traces.size;
    }

    public int noTraces() {
        int before = traces.size;
        traces.forget();
        return before;
    }

    public int sources(int n) {
        return isSourceLength(n) ? traces.search(q, n) : BAD;
    }

    public int best(int s, int n) {
        if (!isRegister(s) || !isSourceLength(n)) {
            return BAD;
        }
        if (traces.search(q, n) == 0) {
            return NONE;
        }
        registers[s].become(traces.best);
        return n;
    }

    public int line(int losses, int gains, int turns) {
        if (!isChance(losses) || !isChance(gains) || !isChance(turns) || losses + gains + turns > MOST_CHANCES) {
            return BAD;
        }
        theLine.tell(losses, gains, turns);
        return 0;
    }

    public int seed(long v) {
        if (v < 0) {
            return BAD;
        }
        theLine.seed = v;
        return 0;
    }

    public int send(int s, int t) {
        if (!isRegister(s) || !isRegister(t)) {
            return BAD;
        }
        if (!theLine.carry(registers[t], q)) {
            return FAR;
        }
        registers[s].become(theLine.carried);
        return registers[s].size;
    }

    public int count(int what) {
        switch (what) {
            case 0:
                return q;
            case 1:
                return traces.size;
            case 2:
                return theCode.n;
            case 3:
                return lettersOfAll();
            default:
                return BAD;
        }
    }

    private int lettersOfAll() {
        int all = 0;
        for (int s = 0; s < REGISTERS; s++) {
            all += registers[s].size;
        }
        return all;
    }

    private boolean isLetter(int l) {
        return l >= 0 && l < q;
    }

    /** The letter of an edit that only loses one is not told, so it is not looked at. */
    private boolean isEdit(Row row, int kind, int i, int l) {
        if (kind < 0 || kind > 2 || i < 0) {
            return false;
        }
        if (i > row.size || i == row.size && kind != 1) {
            return false;
        }
        return kind == 0 || isLetter(l);
    }

    private boolean isRow(int n, long bits) {
        if (bits >>> 2 * n != 0) {
            return false;
        }
        for (int i = 0; i < n; i++) {
            if (!isLetter((int) (bits >>> 2 * i) & 3)) {
                return false;
            }
        }
        return true;
    }

    private boolean isSourceLength(int n) {
        if (n < 1 || n > MOST_SOURCE_LETTERS) {
            return false;
        }
        int words = 1;
        for (int i = 0; i < n; i++) {
            words *= q;
        }
        return words <= MOST_SOURCES;
    }

    private static boolean isRegister(int s) {
        return s >= 0 && s < REGISTERS;
    }

    private static boolean isEither(int what) {
        return what == 0 || what == 1;
    }

    /** Each is held below the bound by itself, so that their sum cannot wrap round. */
    private static boolean isChance(int c) {
        return c >= 0 && c <= MOST_CHANCES;
    }

    /** A word: two bits a letter, the first one lowest, so that no place can miss an array. */
    private static final class Row {
        private long bits;
        private int size;

        private void clear() {
            put(0, 0L);
        }

        private void put(int n, long row) {
            size = n;
            bits = row;
        }

        private void become(Row other) {
            put(other.size, other.bits);
        }

        private boolean isFull() {
            return size >= MOST_LETTERS;
        }

        private int letter(int i) {
            return (int) (bits >>> 2 * i) & 3;
        }

        private void turn(int i, int l) {
            bits = bits & ~(3L << 2 * i) | (long) l << 2 * i;
        }

        private void lose(int i) {
            bits = ahead(i) | bits >>> 2 * i + 2 << 2 * i;
            size--;
        }

        private void gain(int i, int l) {
            bits = ahead(i) | (long) l << 2 * i | bits >>> 2 * i << 2 * i + 2;
            size++;
        }

        private void append(int l) {
            gain(size, l);
        }

        private long ahead(int i) {
            return bits & (1L << 2 * i) - 1;
        }

        /** The first place from i on that has the letter, or the row's size. */
        private int next(int l, int i) {
            int p = i;
            while (p < size && letter(p) != l) {
                p++;
            }
            return p;
        }
    }

    /** THE CODE. It is counted backwards once when it is told, so that any word of it is found at once. */
    private static final class Code {
        private static final int MOST_CELLS = (MOST_CODE_LETTERS - 1) * MOST_Q * MOST_MODULUS * MOST_Q;

        private final Row tried;
        private final Row found;
        private int[] ways;
        private int q;
        private int n;
        private int m;
        private int a;
        private int b;
        private int letterModulus;
        private int size;

        private Code() {
            tried = new Row();
            found = new Row();
            ways = new int[0];
            q = LEAST_Q;
            m = 1;
            letterModulus = 1;
        }

        private boolean stands() {
            return n > 0;
        }

        private void forget() {
            n = 0;
        }

        /** For two letters their sum is not looked at: modulo 1 it is always 0. */
        private void tell(int q, int n, int m, int a, int b) {
            this.q = q;
            this.n = n;
            this.m = m;
            this.a = a;
            this.b = q == 2 ? 0 : b;
            letterModulus = q == 2 ? 1 : q;
            makeRoom();
            countWays();
        }

        /** Most codes are small: the table grows only when it must, and doubles, so that it seldom grows again. */
        private void makeRoom() {
            int cells = (n - 1) * q * m * letterModulus;
            if (cells > ways.length) {
                ways = new int[Math.max(cells, Math.min(2 * ways.length, MOST_CELLS))];
            }
        }

        private void countWays() {
            for (int p = n - 1; p >= 1; p--) {
                for (int last = 0; last < q; last++) {
                    countWaysBehind(p, last);
                }
            }
            size = waysByNext(0, 0, 0, 0);
        }

        private void countWaysBehind(int p, int last) {
            for (int s = 0; s < m; s++) {
                for (int c = 0; c < letterModulus; c++) {
                    ways[cell(p, last, s, c)] = waysByNext(p, last, s, c);
                }
            }
        }

        private int waysByNext(int p, int last, int s, int c) {
            int all = 0;
            for (int l = 0; l < q; l++) {
                all += waysToEnd(p + 1, l, sumWith(s, p + 1, last, l), (c + l) % letterModulus);
            }
            return all;
        }

        /** How many ways p letters, of which are known the last and both sums, go on to a word of the code. */
        private int waysToEnd(int p, int last, int s, int c) {
            if (p >= n) {
                return s == a && c == b ? 1 : 0;
            }
            return ways[cell(p, last, s, c)];
        }

        private int cell(int p, int last, int s, int c) {
            return (((p - 1) * q + last) * m + s) * letterModulus + c;
        }

        /** THE SUM s with one letter more, at a place counted from 1. */
        private int sumWith(int s, int place, int last, int l) {
            if (q == 2) {
                return (s + place * l) % m;
            }
            return place > 1 && l >= last ? (s + place - 1) % m : s;
        }

        private int sumOf(Row row) {
            int s = 0;
            int last = 0;
            for (int i = 0; i < row.size; i++) {
                int l = row.letter(i);
                s = sumWith(s, i + 1, last, l);
                last = l;
            }
            return s;
        }

        private boolean holds(Row row) {
            if (row.size != n || sumOf(row) != a) {
                return false;
            }
            int c = 0;
            for (int i = 0; i < n; i++) {
                c += row.letter(i);
            }
            return c % letterModulus == b;
        }

        private void write(int i, Row into) {
            int left = i;
            int last = 0;
            int s = 0;
            int c = 0;
            into.clear();
            for (int p = 1; p <= n; p++) {
                int l = 0;
                int here = waysToEnd(p, l, sumWith(s, p, last, l), c);
                while (l < q - 1 && left >= here) {
                    left -= here;
                    l++;
                    here = waysToEnd(p, l, sumWith(s, p, last, l), (c + l) % letterModulus);
                }
                into.append(l);
                s = sumWith(s, p, last, l);
                c = (c + l) % letterModulus;
                last = l;
            }
        }

        /** How many words of the code come to a row by just one edit; the last of them stays in found. */
        private int neighbours(Row row) {
            if (row.size == n) {
                return neighboursByTurn(row);
            }
            if (row.size == n + 1) {
                return neighboursByGain(row);
            }
            return row.size == n - 1 ? neighboursByLoss(row) : 0;
        }

        private int neighboursByTurn(Row row) {
            int all = 0;
            for (int i = 0; i < row.size; i++) {
                for (int l = 0; l < q; l++) {
                    if (l != row.letter(i)) {
                        tried.become(row);
                        tried.turn(i, l);
                        all += take();
                    }
                }
            }
            return all;
        }

        /** Any of a run of equal letters may be the one gained: only the first of a run is tried. */
        private int neighboursByGain(Row row) {
            int all = 0;
            for (int i = 0; i < row.size; i++) {
                if (i == 0 || row.letter(i) != row.letter(i - 1)) {
                    tried.become(row);
                    tried.lose(i);
                    all += take();
                }
            }
            return all;
        }

        /** A letter put ahead of its equal is the same as behind it: only the hindmost place is tried. */
        private int neighboursByLoss(Row row) {
            int all = 0;
            for (int i = 0; i <= row.size; i++) {
                for (int l = 0; l < q; l++) {
                    if (i == row.size || l != row.letter(i)) {
                        tried.become(row);
                        tried.gain(i, l);
                        all += take();
                    }
                }
            }
            return all;
        }

        private int take() {
            if (!holds(tried)) {
                return 0;
            }
            found.become(tried);
            return 1;
        }
    }

    /** What lies in one word, and what comes of one. */
    private static final class Parts {
        private static final int STEPS = MOST_STEPS + 1;

        private final long[] embedded;
        private final long[] left;

        private Parts() {
            embedded = new long[MOST_LETTERS + 1];
            left = new long[(MOST_LETTERS + 1) * STEPS];
        }

        private long howOften(Row part, Row whole) {
            embedded[0] = 1;
            for (int k = 1; k <= part.size; k++) {
                embedded[k] = 0;
            }
            for (int i = 0; i < whole.size; i++) {
                int l = whole.letter(i);
                for (int k = part.size; k >= 1; k--) {
                    if (part.letter(k - 1) == l) {
                        embedded[k] += embedded[k - 1];
                    }
                }
            }
            return embedded[part.size];
        }

        private long byLosing(Row row, int n, int q) {
            for (int i = row.size; i >= 0; i--) {
                for (int lost = 0; lost <= n; lost++) {
                    left[i * STEPS + lost] = leftFrom(row, i, lost, q);
                }
            }
            return left[n];
        }

        /** How many parts the letters from i on have with so many lost: each is counted at its first places alone. */
        private long leftFrom(Row row, int i, int lost, int q) {
            if (row.size - i <= lost) {
                return row.size - i == lost ? 1 : 0;
            }
            long all = 0;
            for (int l = 0; l < q; l++) {
                int p = row.next(l, i);
                if (p < row.size && p - i <= lost) {
                    all += left[(p + 1) * STEPS + lost - (p - i)];
                }
            }
            return all;
        }

        /** It is the same for all words of one length: i letters besides the first places of the word's own. */
        private long byGaining(Row row, int n, int q) {
            int length = row.size + n;
            long places = 1;
            long others = 1;
            long all = 0;
            for (int i = 0; i <= n; i++) {
                all += places * others;
                places = places * (length - i) / (i + 1);
                others *= q - 1;
            }
            return all;
        }
    }

    /** Two words beside one another: a table of the rests of both, from each place on. */
    private static final class Pair {
        private static final int WIDTH = MOST_LETTERS + 1;

        private final int[] lengths;
        private final long[] numbers;
        private final Row first;

        private Pair() {
            lengths = new int[WIDTH * WIDTH];
            numbers = new long[WIDTH * WIDTH];
            first = new Row();
        }

        private static int cell(int i, int j) {
            return i * WIDTH + j;
        }

        private int longest(Row t, Row u) {
            for (int i = t.size; i >= 0; i--) {
                for (int j = u.size; j >= 0; j--) {
                    lengths[cell(i, j)] = longestFrom(t, i, u, j);
                }
            }
            return lengths[0];
        }

        private int longestFrom(Row t, int i, Row u, int j) {
            if (i >= t.size || j >= u.size) {
                return 0;
            }
            if (t.letter(i) == u.letter(j)) {
                return lengths[cell(i + 1, j + 1)] + 1;
            }
            return Math.max(lengths[cell(i + 1, j)], lengths[cell(i, j + 1)]);
        }

        /** Whether a longest common part of the rests may begin with the letter at i and j; longest() goes ahead. */
        private boolean goesOn(Row t, int i, Row u, int j, int length) {
            return i < t.size && j < u.size && lengths[cell(i + 1, j + 1)] + 1 == length;
        }

        private Row firstLongest(Row t, Row u, int q) {
            first.clear();
            int i = 0;
            int j = 0;
            for (int length = lengths[0]; length > 0; length--) {
                int l = 0;
                while (l < q - 1 && !goesOn(t, t.next(l, i), u, u.next(l, j), length)) {
                    l++;
                }
                first.append(l);
                i = t.next(l, i) + 1;
                j = u.next(l, j) + 1;
            }
            return first;
        }

        private long howManyLongest(Row t, Row u, int q) {
            for (int i = t.size; i >= 0; i--) {
                for (int j = u.size; j >= 0; j--) {
                    numbers[cell(i, j)] = howManyFrom(t, i, u, j, q);
                }
            }
            return numbers[0];
        }

        private long howManyFrom(Row t, int i, Row u, int j, int q) {
            int length = lengths[cell(i, j)];
            if (length == 0) {
                return 1;
            }
            long all = 0;
            for (int l = 0; l < q; l++) {
                int p = t.next(l, i);
                int r = u.next(l, j);
                if (goesOn(t, p, u, r, length)) {
                    all += numbers[cell(p + 1, r + 1)];
                }
            }
            return all;
        }

        private int edits(Row t, Row u) {
            for (int i = t.size; i >= 0; i--) {
                for (int j = u.size; j >= 0; j--) {
                    lengths[cell(i, j)] = editsFrom(t, i, u, j);
                }
            }
            return lengths[0];
        }

        private int editsFrom(Row t, int i, Row u, int j) {
            if (i >= t.size || j >= u.size) {
                return t.size - i + u.size - j;
            }
            int both = lengths[cell(i + 1, j + 1)];
            if (t.letter(i) == u.letter(j)) {
                return both;
            }
            return 1 + Math.min(both, Math.min(lengths[cell(i + 1, j)], lengths[cell(i, j + 1)]));
        }
    }

    /** TRACES, and the search through all words of one length for their SOURCES. */
    private static final class Traces {
        private static final long MOST_PRODUCT = 1000000000000000L;
        private static final int DEPTHS = MOST_SOURCE_LETTERS + 1;

        private final Row[] rows;
        /** By depth, trace and k: how often the trace's first k letters lie in the letters tried so far. */
        private final int[] embedded;
        private final Row tried;
        private final Row best;
        private int size;
        private int q;
        private int n;
        private int found;
        private long bestProduct;

        private Traces() {
            rows = new Row[MOST_TRACES];
            for (int j = 0; j < MOST_TRACES; j++) {
                rows[j] = new Row();
            }
            embedded = new int[DEPTHS * MOST_TRACES * DEPTHS];
            tried = new Row();
            best = new Row();
        }

        private void keep(Row row) {
            rows[size].become(row);
            size++;
        }

        private void forget() {
            size = 0;
        }

        /** How many sources of n letters there are; the best of them stays in best. */
        private int search(int q, int n) {
            this.q = q;
            this.n = n;
            found = 0;
            bestProduct = 0;
            tried.put(n, 0L);
            for (int j = 0; j < size; j++) {
                if (rows[j].size > n) {
                    return 0;
                }
                embedded[cell(0, j, 0)] = 1;
            }
            explore(0);
            return found;
        }

        private static int cell(int depth, int j, int k) {
            return (depth * MOST_TRACES + j) * DEPTHS + k;
        }

        private void explore(int depth) {
            if (depth >= n) {
                weigh();
                return;
            }
            for (int l = 0; l < q; l++) {
                if (allFollow(depth, l)) {
                    tried.turn(depth, l);
                    explore(depth + 1);
                }
            }
        }

        private boolean allFollow(int depth, int l) {
            for (int j = 0; j < size; j++) {
                if (!follows(j, depth, l)) {
                    return false;
                }
            }
            return true;
        }

        /**
         * Counts the trace on by one letter and tells whether it can still come to its end. Beginnings that
         * are too short for the places left are not counted: nothing later asks for them.
         */
        private boolean follows(int j, int depth, int l) {
            Row row = rows[j];
            int low = Math.max(0, row.size - (n - depth - 1));
            int high = Math.min(row.size, depth + 1);
            int from = cell(depth, j, 0);
            int to = cell(depth + 1, j, 0);
            for (int k = low; k <= high; k++) {
                int often = k <= depth ? embedded[from + k] : 0;
                if (k > 0 && row.letter(k - 1) == l) {
                    often += embedded[from + k - 1];
                }
                embedded[to + k] = often;
            }
            return embedded[to + low] > 0;
        }

        /** Words come in order, so only a greater product takes the place of the best. */
        private void weigh() {
            found++;
            long product = 1;
            for (int j = 0; j < size; j++) {
                product = Math.min(MOST_PRODUCT, product * embedded[cell(n, j, rows[j].size)]);
            }
            if (product > bestProduct) {
                bestProduct = product;
                best.become(tried);
            }
        }
    }

    /** THE LINE and its SEED. */
    private static final class Line {
        private static final long FACTOR = 25214903917L;
        private static final long ADDEND = 11L;
        private static final long MASK = (1L << 48) - 1;

        private final Row carried;
        private int belowLosses;
        private int belowGains;
        private int belowTurns;
        private long seed;

        private Line() {
            carried = new Row();
            seed = 1L;
        }

        private void tell(int losses, int gains, int turns) {
            belowLosses = losses;
            belowGains = losses + gains;
            belowTurns = losses + gains + turns;
        }

        /** False if too many letters would come of the row: then the seed stays. */
        private boolean carry(Row row, int q) {
            long now = seed;
            carried.clear();
            for (int i = 0; i < row.size; i++) {
                now = now * FACTOR + ADDEND & MASK;
                if (!carryLetter(row.letter(i), (int) (now >>> 42), q)) {
                    return false;
                }
            }
            seed = now;
            return true;
        }

        private boolean carryLetter(int l, int v, int q) {
            if (v < belowLosses) {
                return true;
            }
            if (v < belowGains) {
                return takeUp(v % q) && takeUp(l);
            }
            return takeUp(v < belowTurns ? (l + v % (q - 1) + 1) % q : l);
        }

        private boolean takeUp(int l) {
            if (carried.isFull()) {
                return false;
            }
            carried.append(l);
            return true;
        }
    }
}
