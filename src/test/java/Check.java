import java.util.function.Consumer;
import java.util.function.ToLongFunction;

/** What the tests share: answers held against those that are due, and texts written byte by byte. */
final class Check {
    private static final int PROMISES = 24;
    private static final int[] CHECKS = new int[PROMISES + 1];
    private static int wrong = 0;

    private Check() {
    }

    static void due(int promise, String call, long got, long want) {
        CHECKS[promise]++;
        if (got != want) {
            wrong++;
            System.out.println("promise " + promise + ": " + call + " answered " + got + ", due is " + want);
        }
    }

    static void holds(String what, boolean so) {
        if (!so) {
            wrong++;
            System.out.println("does not hold: " + what);
        }
    }

    /** The numbers at the first places of register 0, where the item is laid. */
    static void rowIs(String item, int... numbers) {
        TellingRows x = laid(item);
        for (int i = 0; i < numbers.length; i++) {
            due(7, "at(0, " + i + ") of " + item, x.at(0, i), numbers[i]);
        }
    }

    static void aroundIs(String item, int period, int tail) {
        TellingRows x = laid(item);
        due(12, "around(0, 0) of " + item, x.around(0, 0), period);
        due(12, "around(0, 1) of " + item, x.around(0, 1), tail);
    }

    static void saidIs(String figures, boolean counted, int k, String want) {
        TellingRows x = with(figures);
        String call = figures + (counted ? " counted " : " said ") + k;
        due(19, call + " many", x.said(counted, k, -1), want.length());
        for (int i = 0; i < want.length(); i++) {
            due(19, call + " at " + i, x.said(counted, k, i), want.charAt(i) - '0');
        }
        due(19, call + " behind", x.said(counted, k, want.length()), TellingRows.NONE);
        due(19, call + " far behind", x.said(counted, k, Integer.MAX_VALUE), TellingRows.NONE);
        due(19, "the figures stay", x.count(2), figures.length());
    }

    static void unsaidIs(String figures, String want) {
        TellingRows x = with(figures);
        due(20, figures + " unsaid many", x.unsaid(-1), want.length());
        for (int i = 0; i < want.length(); i++) {
            due(20, figures + " unsaid at " + i, x.unsaid(i), want.charAt(i) - '0');
        }
        due(20, figures + " unsaid behind", x.unsaid(want.length()), TellingRows.NONE);
        due(20, "the figures stay", x.count(2), figures.length());
        holds(figures + " goes back once", x.backs() > 0);
    }

    /** NO for both where there is none. */
    static void roundIs(String figures, int tail, int round) {
        TellingRows x = with(figures);
        due(22, "tail of " + figures, x.round(0), tail);
        due(22, "round of " + figures, x.round(1), round);
        due(22, "BAD of " + figures, x.round(2), TellingRows.BAD);
        due(22, "BAD of " + figures, x.round(-1), TellingRows.BAD);
        due(22, "the figures stay", x.count(2), figures.length());
    }

    /** A call that changes nothing: it answers so, and an object that it was not made on answers all else alike. */
    static void refused(int promise, String call, Consumer<TellingRows> before, ToLongFunction<TellingRows> refused,
            long want) {
        TellingRows x = new TellingRows();
        TellingRows twin = new TellingRows();
        before.accept(x);
        before.accept(twin);
        due(promise, call, refused.applyAsLong(x), want);
        String got = state(x);
        String due = state(twin);
        holds(call + " changes nothing: " + got + " but without it " + due, got.equals(due));
    }

    /** All that an object tells of itself, in some 250 calls; the text is told by what it lays, so ask last. */
    static String state(TellingRows x) {
        StringBuilder all = new StringBuilder();
        for (int what = 0; what < 3; what++) {
            all.append(x.count(what)).append(' ');
        }
        registers(x, all);
        all.append("breaks ").append(x.may()).append(' ');
        for (int r = 0; r < 4; r++) {
            all.append(x.breaks(r)).append(' ');
        }
        all.append("figures ");
        for (int i = -1; i <= 40; i++) {
            all.append(x.said(false, 0, i)).append(' ');
        }
        all.append("text ").append(x.fault()).append(' ').append(x.lay()).append(' ');
        registers(x, all);
        return all.toString();
    }

    private static void registers(TellingRows x, StringBuilder all) {
        for (int r = 0; r < 4; r++) {
            all.append("register ").append(r).append(' ');
            for (int what = 0; what < 8; what++) {
                all.append(x.told(r, what)).append(' ');
            }
            for (int i : new int[] {0, 1, 2, 5, 6, 7, 20, 300, 1998, 1999}) {
                all.append(x.at(r, i)).append(' ');
            }
        }
    }

    /** Ends the test: each promise from the first to the last must have been checked. */
    static void end(int first, int last) {
        int checks = 0;
        for (int p = first; p <= last; p++) {
            holds("promise " + p + " is checked", CHECKS[p] > 0);
            checks += CHECKS[p];
        }
        System.out.println(checks + " answers checked, " + wrong + " wrong");
        System.exit(wrong == 0 ? 0 : 1);
    }

    /** Writes the text behind what is there: how long the last write said it is. */
    static int write(TellingRows rows, String text) {
        int answer = 0;
        for (int i = 0; i < text.length(); i += 8) {
            int end = Math.min(i + 8, text.length());
            answer = rows.write(end - i, packed(text.substring(i, end)));
        }
        return answer;
    }

    static long packed(String text) {
        long v = 0;
        for (int i = 0; i < text.length(); i++) {
            v = v << 8 | text.charAt(i) & 255;
        }
        return v;
    }

    /** A new object with the figures. */
    static TellingRows with(String figures) {
        TellingRows x = new TellingRows();
        for (int i = 0; i < figures.length(); i++) {
            due(17, "figure", x.figure(figures.charAt(i) - '0'), i + 1);
        }
        return x;
    }

    /** A new object with the text laid. */
    static TellingRows laid(String text) {
        TellingRows rows = new TellingRows();
        write(rows, text);
        holds("the text can be laid: " + text, rows.lay() >= 0);
        return rows;
    }
}
