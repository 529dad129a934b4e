import java.util.Random;

/**
 * Runs of calls drawn from fixed seeds, on the class and on the model: each answer is compared, and all registers at
 * the end of a run. Reading them takes calls too, so runs are of many lengths: a short one shows what a long one
 * would write over.
 */
public final class ModelTest {
    private static final int RUNS = 1600;
    private static final int MOST_CALLS = 512;
    /** What the registers and counts take at the end, and the last drawn call, are kept free. */
    private static final int MOST_DRAWN = 300;
    private static final int LONGEST = 9;
    private static final Check check = new Check("ModelTest");

    private final int run;
    private final Random random;
    private final LostLetters x = new LostLetters();
    private final Model m = new Model();
    private int q = 2;
    private int made = 0;

    private ModelTest(int run) {
        this.run = run;
        random = new Random(run);
    }

    public static void main(String[] args) {
        for (int run = 0; run < RUNS && !check.hasWrong(); run++) {
            new ModelTest(run).play();
        }
        check.end();
    }

    private void play() {
        if (run % 4 != 0) {
            letters(2 + run % 3);
        }
        int drawn = 1 + random.nextInt(MOST_DRAWN);
        for (int c = 0; c < drawn && made < MOST_DRAWN && !check.hasWrong(); c++) {
            call();
            keepShort();
        }
        compare();
        if (made > MOST_CALLS) {
            throw new IllegalStateException("run " + run + " needs more than " + MOST_CALLS + " calls");
        }
    }

    /** Now and then one that is just beside what is told. */
    private int from(int low, int high) {
        int wild = random.nextInt(60);
        return wild == 0 ? low - 1 : wild == 1 ? high + 1 : low + random.nextInt(high - low + 1);
    }

    private int register() {
        return from(0, 11);
    }

    private void due(String call, long got, long want) {
        made++;
        check.due("run " + run + ": " + call, got, want);
    }

    private void letters(int to) {
        due("letters(" + to + ")", x.letters(to), m.letters(to));
        q = to >= 2 && to <= 4 ? to : q;
    }

    private void call() {
        int s = register(), t = register(), u = register();
        switch (random.nextInt(24)) {
            case 0 -> rarelyLetters();
            case 1, 2, 3 -> word(s);
            case 4, 5 -> edit(s, t);
            case 6 -> code();
            case 7 -> due("sum(" + s + ")", x.sum(s), m.sum(s));
            case 8 -> due("isOf(" + s + ")", x.isOf(s), m.isOf(s));
            case 9, 10 -> listed(s);
            case 11 -> due("mend(" + s + ", " + t + ")", x.mend(s, t), m.mend(s, t));
            case 12 -> due("near(" + t + ")", x.near(t), m.near(t));
            case 13 -> due("liesIn(" + s + ", " + t + ")", x.liesIn(s, t), m.liesIn(s, t));
            case 14 -> due("common(" + s + ", " + t + ", " + u + ")", x.common(s, t, u), m.common(s, t, u));
            case 15 -> due("commons(" + t + ", " + u + ")", x.commons(t, u), m.commons(t, u));
            case 16 -> between(t, u);
            case 17 -> by(t);
            case 18 -> due("trace(" + s + ")", x.trace(s), m.trace(s));
            case 19 -> rarelyNoTraces();
            case 20 -> sources(s);
            case 21 -> line();
            case 22 -> due("send(" + s + ", " + t + ")", x.send(s, t), m.send(s, t));
            default -> count();
        }
    }

    private void rarelyLetters() {
        if (random.nextInt(6) == 0) {
            letters(from(2, 4));
        }
    }

    private void rarelyNoTraces() {
        if (random.nextInt(3) == 0) {
            due("noTraces()", x.noTraces(), m.noTraces());
        }
    }

    private void word(int s) {
        int n = from(0, LONGEST);
        long row = 0;
        for (int i = 0; i < n; i++) {
            row |= (long) random.nextInt(q) << 2 * i;
        }
        if (random.nextInt(20) == 0) {
            row ^= 1L << random.nextInt(64);
        }
        due("word(" + s + ", " + n + ", " + row + ")", x.word(s, n, row), m.word(s, n, row));
    }

    private void edit(int s, int t) {
        int kind = from(0, 2);
        int i = from(0, Math.max(0, s >= 0 && s < 12 ? m.register(s).length() : 0));
        int l = from(0, q - 1);
        due("edit(" + s + ", " + t + ", " + kind + ", " + i + ", " + l + ")",
                x.edit(s, t, kind, i, l), m.edit(s, t, kind, i, l));
    }

    private void code() {
        int n = 1 + random.nextInt(q == 2 ? 8 : q == 3 ? 6 : 5);
        if (random.nextInt(20) == 0) {
            n = 0;
        }
        int modulus = random.nextBoolean() ? from(1, 64) : n + 1;
        int a = from(0, Math.max(0, Math.min(modulus - 1, 10)));
        int b = from(0, q - 1);
        due("code(" + n + ", " + modulus + ", " + a + ", " + b + ")",
                x.code(n, modulus, a, b), m.code(n, modulus, a, b));
    }

    private void listed(int s) {
        int i = from(0, 12);
        due("listed(" + s + ", " + i + ")", x.listed(s, i), m.listed(s, i));
    }

    private void between(int t, int u) {
        int what = from(0, 1);
        due("between(" + t + ", " + u + ", " + what + ")", x.between(t, u, what), m.between(t, u, what));
    }

    private void by(int t) {
        int what = from(0, 1);
        int length = t >= 0 && t < 12 ? m.register(t).length() : 0;
        int most = what == 0 ? 6 : Math.max(0, Math.min(6, (q == 2 ? 12 : q == 3 ? 8 : 7) - length));
        int n = most < 6 ? random.nextInt(most + 1) : from(0, 6);
        due("by(" + t + ", " + n + ", " + what + ")", x.by(t, n, what), m.by(t, n, what));
    }

    private void sources(int s) {
        int n = from(1, q == 2 ? 9 : q == 3 ? 7 : 6);
        due("sources(" + n + ")", x.sources(n), m.sources(n));
        due("best(" + s + ", " + n + ")", x.best(s, n), m.best(s, n));
    }

    private void line() {
        int losses = from(0, 25), gains = from(0, 25), turns = from(0, 20);
        due("line(" + losses + ", " + gains + ", " + turns + ")",
                x.line(losses, gains, turns), m.line(losses, gains, turns));
        if (random.nextBoolean()) {
            long v = random.nextLong();
            due("seed(" + v + ")", x.seed(v), m.seed(v));
        }
    }

    private void count() {
        int what = from(0, 3);
        due("count(" + what + ")", x.count(what), m.count(what));
    }

    /** The model enumerates all parts of a word: what has grown too long for it is cut. */
    private void keepShort() {
        for (int s = 0; s < 12; s++) {
            if (m.register(s).length() > LONGEST + 3) {
                read(s);
                due("word(" + s + ", 0, 0)", x.word(s, 0, 0), m.word(s, 0, 0));
            }
        }
    }

    private void compare() {
        for (int s = 0; s < 12; s++) {
            read(s);
        }
        for (int what = 0; what < 4; what++) {
            due("count(" + what + ")", x.count(what), m.count(what));
        }
    }

    private void read(int s) {
        String letters = Check.read(x, s);
        made += letters.length() + 1;
        check.due("run " + run + ": register " + s, letters, m.register(s));
    }
}
