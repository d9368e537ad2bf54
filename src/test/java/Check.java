/** What the tests share: answers held against those that are due, and texts written byte by byte. */
final class Check {
    private static final int PROMISES = 24;
    private static final int[] CHECKS = new int[PROMISES + 1];
    private static int wrong = 0;

    private Check() {
    }

    static void due(int promise, String call, long got, long want) {
        CHECKS[promise]++;
        if (got != want) {
            wrong++;
            System.out.println("promise " + promise + ": " + call + " answered " + got + ", due is " + want);
        }
    }

    static void holds(String what, boolean so) {
        if (!so) {
            wrong++;
            System.out.println("does not hold: " + what);
        }
    }

    /** Ends the test: each promise from the first to the last must have been checked. */
    static void end(int first, int last) {
        int checks = 0;
        for (int p = first; p <= last; p++) {
            holds("promise " + p + " is checked", CHECKS[p] > 0);
            checks += CHECKS[p];
        }
        System.out.println(checks + " answers checked, " + wrong + " wrong");
        System.exit(wrong == 0 ? 0 : 1);
    }

    /** Writes the text behind what is there: how long the last write said it is. */
    static int write(TellingRows rows, String text) {
        int answer = 0;
        for (int i = 0; i < text.length(); i += 8) {
            int end = Math.min(i + 8, text.length());
            answer = rows.write(end - i, packed(text.substring(i, end)));
        }
        return answer;
    }

    static long packed(String text) {
        long v = 0;
        for (int i = 0; i < text.length(); i++) {
            v = v << 8 | text.charAt(i) & 255;
        }
        return v;
    }

    /** A new object with the text laid. */
    static TellingRows laid(String text) {
        TellingRows rows = new TellingRows();
        write(rows, text);
        holds("the text can be laid: " + text, rows.lay() >= 0);
        return rows;
    }
}
