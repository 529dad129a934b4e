import java.util.ArrayList;
import java.util.List;

/**
 * A sentence of the document with an object of its own and the answers that are due there. Behind each call that is
 * refused or only asks, a twin that was not called must look the same in all that can be seen.
 */
final class Sentence {
    static final int BAD = -1, NO = -2, FULL = -3, NONE = -4, FAR = -5;
    static final int LEAST = Integer.MIN_VALUE, MOST = Integer.MAX_VALUE;
    static final String ZEROS = "000000000000000000000000";
    static final String ONES = "111111111111111111111111";
    private static final int MOST_CALLS = 512;

    private final Check check;
    private final String text;
    private final LostLetters x = new LostLetters();
    private final List<Call> changes = new ArrayList<>();
    private final String[] seen = new String[2];
    private int made = 0;

    Sentence(Check check, String text) {
        this.check = check;
        this.text = text;
    }

    /** A state in which every part of the object has something to lose. */
    Sentence rich(int q) {
        letters(q);
        String last = "" + (q - 1);
        put(0, "0110");
        put(1, "10" + last);
        put(2, ZEROS);
        put(4, last.repeat(23));
        put(9, "01" + last + "10" + last);
        put(11, last + "0");
        due(q == 2 ? 6 : q == 3 ? 13 : 51, "code", 5, q == 3 ? 7 : 5, q == 4 ? 2 : 1, 1);
        due(1, "trace", 11);
        due(2, "trace", 3);
        due(0, "line", 10, 11, 12);
        return due(0, "seed", 987654321);
    }

    Sentence due(long want, String name, long... numbers) {
        Call call = new Call(name, numbers);
        made++;
        check.due(shown(call), call.on(x), want);
        if (want < 0 || call.onlyAsks()) {
            nothingChangesBy(call);
        } else {
            changes.add(call);
            seen[0] = null;
            seen[1] = null;
        }
        return inTime(made);
    }

    Sentence letters(int q) {
        return due(0, "letters", q);
    }

    Sentence put(int s, String letters) {
        return due(letters.length(), "word", s, letters.length(), Check.bits(letters));
    }

    Sentence dueRow(int s, String want) {
        made += want.length() + 1;
        check.due(shown("register " + s), Check.read(x, s), want);
        return inTime(made);
    }

    private String shown(Object call) {
        String last = changes.isEmpty() ? "new" : changes.get(changes.size() - 1).toString();
        return "\"" + text + "\": behind " + last + ": " + call;
    }

    private Sentence inTime(int calls) {
        if (calls > MOST_CALLS) {
            throw new IllegalStateException("\"" + text + "\" needs more than " + MOST_CALLS + " calls");
        }
        return this;
    }

    private void nothingChangesBy(Call call) {
        for (int view = 0; view < seen.length; view++) {
            if (seen[view] == null) {
                seen[view] = look(twin(), view);
            }
            LostLetters called = twin();
            call.on(called);
            check.due(shown(call + " changed what is seen"), look(called, view), seen[view]);
        }
    }

    private LostLetters twin() {
        LostLetters y = new LostLetters();
        for (Call change : changes) {
            change.on(y);
        }
        return y;
    }

    /** Two views, since both together may need more calls than an object has; a look is a twin's last use. */
    private String look(LostLetters y, int view) {
        Look look = new Look(y);
        String all = view == 0 ? look.atWords() : look.atTheRest();
        inTime(changes.size() + 1 + look.calls());
        return all;
    }

    /** All that can be seen of an object, as a text. */
    private static final class Look {
        private final LostLetters y;
        private final StringBuilder all = new StringBuilder();
        private int calls = 0;

        private Look(LostLetters y) {
            this.y = y;
        }

        private int calls() {
            return calls;
        }

        private long ask(String name, long... numbers) {
            calls++;
            long answer = new Call(name, numbers).on(y);
            all.append(name).append(' ').append(answer).append(' ');
            return answer;
        }

        private void read(int s) {
            String letters = Check.read(y, s);
            calls += letters.length() + 1;
            all.append('[').append(letters).append("] ");
        }

        private String atWords() {
            for (int what = 0; what < 4; what++) {
                ask("count", what);
            }
            for (int s = 0; s < 12; s++) {
                read(s);
                ask("sum", s);
                ask("isOf", s);
            }
            return all.toString();
        }

        private String atTheRest() {
            for (int i = 0; i < 3; i++) {
                ask("listed", 0, i);
                read(0);
            }
            for (int n = 1; n <= 12; n++) {
                ask("sources", n);
            }
            for (int n = 3; n <= 7; n += 2) {
                ask("best", 0, n);
                read(0);
            }
            ask("word", 0, 12, Check.bits("010110011101"));
            played();
            ask("line", 16, 16, 16);
            played();
            return all.toString();
        }

        private void played() {
            for (int k = 0; k < 3; k++) {
                ask("send", 1, 0);
                read(1);
            }
        }
    }
}
