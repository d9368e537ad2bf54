/** Promises 17 to 24: each sentence of the document that names a bound of the figures. */
public final class FigureBoundsTest {
    private static final int BAD = TellingRows.BAD, NO = TellingRows.NO;
    private static final int FULL = TellingRows.FULL, NONE = TellingRows.NONE;
    private static final int[] NO_WHAT = {Integer.MIN_VALUE, -2, -1, 2, 3, Integer.MAX_VALUE};

    public static void main(String[] args) {
        figuresOneToNine();
        fortyFigures();
        runOfNine();
        nineOfOneSort();
        tenOnTheWay();
        timesZeroToTwelve();
        figureOfSaid();
        saidOfNone();
        saidOfForty();
        unsaidOddInNumber();
        unsaidLikeSecondOnes();
        unsaidLongest();
        figureOfUnsaid();
        backsToTwenty();
        backsOfForty();
        roundFromTheFirst();
        roundOfNo();
        roundBad();
        tellersOfTwoToTen();
        figureOfTellers();
        counts();
        Check.end(17, 24);
    }

    private static void no(String figures, boolean counted, int k) {
        for (int i : new int[] {-1, 0, 1, Integer.MAX_VALUE}) {
            Check.refused(19, figures + (counted ? " counted " : " said ") + k + " at " + i,
                x -> tell(x, figures), x -> x.said(counted, k, i), NO);
        }
    }

    private static void tell(TellingRows x, String figures) {
        x.number(1);
        for (int i = 0; i < figures.length(); i++) {
            x.figure(figures.charAt(i) - '0');
        }
    }

    /** "FIGURES (1 to 9)". */
    private static void figuresOneToNine() {
        TellingRows x = new TellingRows();
        for (int d = 1; d <= 9; d++) {
            Check.due(17, "figure " + d, x.figure(d), d);
            Check.due(17, "it is there", x.said(false, 0, d - 1), d);
        }
        for (int d : new int[] {Integer.MIN_VALUE, -1, 0, 10, 11, '1', Integer.MAX_VALUE}) {
            Check.refused(17, "figure " + d, y -> tell(y, "121"), y -> y.figure(d), BAD);
        }
    }

    /** "FIGURES, 40 at most", and how many there were. */
    private static void fortyFigures() {
        TellingRows x = new TellingRows();
        Check.due(18, "none", x.noFigures(), 0);
        for (int many = 1; many <= 40; many++) {
            Check.due(17, "figure", x.figure(1 + many % 9), many);
            Check.due(17, "count", x.count(2), many);
        }
        Check.due(17, "41", x.figure(1), FULL);
        Check.due(17, "BAD goes before FULL", x.figure(0), BAD);
        Check.due(17, "BAD goes before FULL", x.figure(10), BAD);
        Check.due(18, "forty were", x.noFigures(), 40);
        Check.due(18, "none are left", x.noFigures(), 0);
        Check.due(18, "none are left", x.count(2), 0);
        Check.due(17, "there is room again", x.figure(9), 1);
        Check.due(18, "one was", x.noFigures(), 1);
        String forty = "1987654321".repeat(4);
        for (int d = 1; d <= 9; d++) {
            int figure = d;
            Check.refused(17, "figure " + d + " of a full row", y -> tell(y, forty), y -> y.figure(figure), FULL);
        }
    }

    /** SAID "NO, if a run is longer than 9": first, last and between. */
    private static void runOfNine() {
        for (int d = 1; d <= 9; d++) {
            String nine = ("" + d).repeat(9);
            String other = "" + (d % 9 + 1);
            Check.saidIs(nine, false, 1, "9" + d);
            Check.saidIs(nine + other, false, 1, "9" + d + "1" + other);
            Check.saidIs(other + nine, false, 1, "1" + other + "9" + d);
            Check.saidIs(other + nine + other, false, 1, "1" + other + "9" + d + "1" + other);
            no(nine + d, false, 1);
            no(nine + d + other, false, 1);
            no(other + nine + d, false, 1);
            no(other + nine + d + other, false, 1);
        }
        Check.saidIs("111111111222222222111111111", false, 1, "919291");
        Check.saidIs("1111111111", false, 0, "1111111111");
        no("1".repeat(40), false, 1);
        no("1".repeat(40), false, 12);
    }

    /** COUNTED "NO, if a figure comes more often than 9 times": side by side or not. */
    private static void nineOfOneSort() {
        for (int d = 1; d <= 9; d++) {
            int low = d == 9 ? 8 : d;
            int high = low + 1;
            Check.saidIs(("" + d).repeat(9), true, 1, "9" + d);
            Check.saidIs(("" + low + high).repeat(9), true, 1, "9" + low + "9" + high);
            Check.saidIs(("" + high + low).repeat(9), true, 1, "9" + low + "9" + high);
            no(("" + d).repeat(10), true, 1);
            no(("" + low + high).repeat(9) + low, true, 1);
            no(("" + low + high).repeat(9) + high, true, 1);
        }
        Check.saidIs("1111111111", true, 0, "1111111111");
        Check.saidIs("912345678".repeat(4), true, 1, "414243444546474849");
    }

    /** "on the way": where only a later counting has ten of a figure; and where none has. */
    private static void tenOnTheWay() {
        Check.saidIs("123456789", true, 1, "111213141516171819");
        for (int k = 2; k <= 12; k++) {
            no("123456789", true, k);
        }
        // eight unlike figures, 1 among them or not: their ones are never more than nine
        Check.saidIs("12345678", true, 1, "1112131415161718");
        Check.saidIs("12345678", true, 2, "9112131415161718");
        Check.saidIs("23456789", true, 1, "1213141516171819");
        Check.saidIs("23456789", true, 2, "811213141516171819");
        no("1111111111", false, 2);
        no("1111111111", true, 2);
        no("1111111111", false, 12);
        no("1111111111", true, 12);
    }

    /** "k times (k 0 to 12)". */
    private static void timesZeroToTwelve() {
        TellingRows x = Check.with("1");
        int[] said = {1, 2, 2, 4, 6, 6, 8, 10, 14, 20, 26, 34, 46};
        int[] counted = {1, 2, 2, 4, 4, 6, 6, 6, 6, 8, 8, 8, 8};
        for (int k = 0; k <= 12; k++) {
            Check.due(19, "said " + k, x.said(false, k, -1), said[k]);
            Check.due(19, "counted " + k, x.said(true, k, -1), counted[k]);
        }
        Check.saidIs("1", false, 9, "13211311123113112211");
        Check.saidIs("1", false, 12, "1321132132111213122112311311222113111221131221");
        Check.saidIs("1", true, 7, "212223");
        Check.saidIs("1", true, 8, "114213");
        Check.saidIs("1", true, 12, "21322314");
        for (int k : new int[] {Integer.MIN_VALUE, -2, -1, 13, 14, Integer.MAX_VALUE}) {
            for (int i : new int[] {-1, 0, 5000}) {
                Check.refused(19, "said " + k, y -> tell(y, "1"), y -> y.said(false, k, i), BAD);
                Check.refused(19, "counted " + k, y -> tell(y, "1"), y -> y.said(true, k, i), BAD);
                Check.due(19, "BAD goes before NO", Check.with("1111111111").said(false, k, i), BAD);
            }
        }
    }

    /** "how many figures (i = -1), the i-th. NONE; NO; BAD." */
    private static void figureOfSaid() {
        for (boolean counted : new boolean[] {false, true}) {
            TellingRows x = Check.with("345");
            Check.due(19, "the first", x.said(counted, 1, 0), 1);
            Check.due(19, "the last", x.said(counted, 1, 5), 5);
            for (int i : new int[] {6, 7, 39, 40, 4999, 5000, 5001, Integer.MAX_VALUE}) {
                Check.due(19, "behind the last, at " + i, x.said(counted, 1, i), NONE);
                Check.due(19, "NO goes before NONE", Check.with("5555555555").said(counted, 1, i), NO);
            }
            for (int i : new int[] {Integer.MIN_VALUE, -3, -2}) {
                Check.due(19, "at " + i, x.said(counted, 1, i), BAD);
                Check.due(19, "BAD goes before NO", Check.with("5555555555").said(counted, 1, i), BAD);
            }
            Check.due(19, "once again", x.said(counted, 1, 5), 5);
            Check.due(19, "the third of three", x.said(counted, 0, 2), 5);
            Check.due(19, "the fourth of three", x.said(counted, 0, 3), NONE);
        }
    }

    /** No FIGURES: no run is there, and no figure. */
    private static void saidOfNone() {
        for (int k = 0; k <= 12; k++) {
            Check.saidIs("", false, k, "");
            Check.saidIs("", true, k, "");
        }
    }

    /**
     * 40 FIGURES, said as often as can be. (The longest row found is this one's, by far not of 5000 figures: the
     * most that was ever found is 2506.)
     */
    private static void saidOfForty() {
        TellingRows x = Check.with("3237373732323237323737383539373534635328");
        Check.due(19, "forty figures", x.said(false, 0, -1), 40);
        Check.due(19, "twice as many", x.said(false, 1, -1), 80);
        Check.due(19, "and again", x.said(false, 2, -1), 160);
        Check.due(19, "said twelve times", x.said(false, 12, -1), 2506);
        Check.due(19, "the last one", x.said(false, 12, 2505), 8);
        Check.due(19, "behind it", x.said(false, 12, 2506), NONE);
        Check.due(17, "forty stay", x.count(2), 40);
    }

    private static void noUnsaid(String figures) {
        for (int i : new int[] {-1, 0, 1, Integer.MAX_VALUE}) {
            Check.refused(20, figures + " unsaid at " + i, x -> tell(x, figures), x -> x.unsaid(i), NO);
        }
        Check.due(21, figures + " goes not back", Check.with(figures).backs(), 0);
    }

    /** "NO, if FIGURES are odd in number". */
    private static void unsaidOddInNumber() {
        String figures = "1213".repeat(10);
        for (int many = 1; many <= 40; many++) {
            if (many % 2 == 1) {
                noUnsaid(figures.substring(0, many));
            } else {
                Check.due(20, many + " figures", Check.with(figures.substring(0, many)).unsaid(-1), many / 2);
            }
        }
        Check.unsaidIs("", "");
    }

    /** "or two pairs side by side have like second ones": first, last; not the first ones, not pairs farther off. */
    private static void unsaidLikeSecondOnes() {
        noUnsaid("1111");
        noUnsaid("1121");
        noUnsaid("2111");
        noUnsaid("912134");
        noUnsaid("341191");
        noUnsaid("12".repeat(19) + "32");
        noUnsaid("1213".repeat(8) + "122313");
        Check.unsaidIs("1112", "12");
        Check.unsaidIs("111211", "121");
        Check.unsaidIs("2122", "1122");
        Check.unsaidIs("1221", "211");
        Check.unsaidIs("2112", "112");
        Check.unsaidIs("122122", "21122");
    }

    /** "for pairs of them from the front the second as often as the first tells": from once to nine times. */
    private static void unsaidLongest() {
        for (int times = 1; times <= 9; times++) {
            for (int d = 1; d <= 9; d++) {
                Check.unsaidIs("" + times + d, ("" + d).repeat(times));
            }
        }
        TellingRows x = Check.with("9192".repeat(10));
        Check.due(20, "the longest of all", x.unsaid(-1), 180);
        Check.due(20, "its last figure", x.unsaid(179), 2);
        Check.due(20, "behind it", x.unsaid(180), NONE);
        Check.due(21, "it goes back once", x.backs(), 1);
    }

    /** "how many figures (i = -1), the i-th. NONE; NO; BAD." */
    private static void figureOfUnsaid() {
        TellingRows x = Check.with("3425");
        int[] want = {4, 4, 4, 5, 5, NONE, NONE};
        for (int i = 0; i < want.length; i++) {
            Check.due(20, "unsaid at " + i, x.unsaid(i), want[i]);
        }
        for (int i : new int[] {5000, Integer.MAX_VALUE}) {
            Check.due(20, "far behind", x.unsaid(i), NONE);
            Check.due(20, "behind none", new TellingRows().unsaid(i), NONE);
        }
        Check.due(20, "none", new TellingRows().unsaid(0), NONE);
        for (int i : new int[] {Integer.MIN_VALUE, -3, -2}) {
            Check.refused(20, "unsaid at " + i, y -> tell(y, "3425"), y -> y.unsaid(i), BAD);
            Check.due(20, "BAD goes before NO", Check.with("342").unsaid(i), BAD);
        }
    }

    /** "how many times one behind the other FIGURES can be UNSAID, to 20". */
    private static void backsToTwenty() {
        Check.due(21, "no figures without end", new TellingRows().backs(), 20);
        Check.due(21, "22 without end", Check.with("22").backs(), 20);
        Check.due(21, "1 not once", Check.with("1").backs(), 0);
        Check.due(21, "11 once", Check.with("11").backs(), 1);
        Check.due(21, "91 once", Check.with("91").backs(), 1);
        Check.due(21, "2222 not once", Check.with("2222").backs(), 0);
        Check.due(21, "the last one is odd", Check.with("1113").backs(), 2);
        Check.due(21, "the last one has like second ones", Check.with("211211").backs(), 1);
        Check.due(21, "it comes to an odd row", Check.with("141221").backs(), 2);
    }

    /** What 40 figures can hold: as often as a row was said that can't be unsaid, it goes back. */
    private static void backsOfForty() {
        saidAndBack("1", 11, 34);
        saidAndBack("211", 11, 40);
        saidAndBack("112", 10, 40);
        saidAndBack("3", 10, 30);
        saidAndBack("1111", 9, 36);
    }

    private static void saidAndBack(String first, int times, int many) {
        String figures = first;
        for (int k = 0; k <= times; k++) {
            TellingRows x = Check.with(figures);
            Check.due(21, first + " said " + k, x.backs(), k);
            Check.due(21, "the figures stay", x.count(2), figures.length());
            StringBuilder next = new StringBuilder();
            for (int i = 0; i < x.said(false, 1, -1); i++) {
                next.append(x.said(false, 1, i));
            }
            figures = k < times ? next.toString() : figures;
        }
        Check.due(21, first + " said " + times, figures.length(), many);
    }

    /** "TAIL: the least u, ROUND: the least above 0": from the first on, and rounds of one, of two, of three. */
    private static void roundFromTheFirst() {
        Check.roundIs("", 0, 1);
        Check.roundIs("22", 0, 1);
        Check.roundIs("31123314", 0, 1);
        Check.roundIs("21322314", 0, 1);
        Check.roundIs("12322314", 1, 1);
        Check.roundIs("1", 12, 1);
        Check.roundIs("11", 11, 1);
        Check.roundIs("21", 10, 1);
        Check.roundIs("9192939495969798", 6, 2);
        Check.roundIs("614213141516271819", 0, 2);
        Check.roundIs("51222314251619", 0, 3);
        Check.roundIs("99999", 11, 3);
        // the longest way that 40 figures can have: 20 in all
        Check.roundIs("88888888999999999", 18, 2);
    }

    /** "(else NO)": where a counting on the way has ten of a figure, at first or later. */
    private static void roundOfNo() {
        for (String figures : new String[] {"1111111111", "123456789", "9".repeat(40), "1".repeat(10) + "2"}) {
            for (int what = 0; what < 2; what++) {
                int asked = what;
                Check.refused(22, "round of " + figures, x -> tell(x, figures), x -> x.round(asked), NO);
            }
        }
        Check.due(22, "nine of one sort", Check.with("111111111").round(1), 1);
    }

    private static void roundBad() {
        for (int what : NO_WHAT) {
            Check.refused(22, "round, what " + what, x -> tell(x, "22"), x -> x.round(what), BAD);
            Check.due(22, "BAD goes before NO", Check.with("1111111111").round(what), BAD);
        }
    }

    /** "TELLERS of b (2 to 10)": the least b with any, the greatest, those with none. */
    private static void tellersOfTwoToTen() {
        int[] many = {0, 0, 2, 1, 0, 1, 1, 1, 1};
        TellingRows x = new TellingRows();
        for (int b = 2; b <= 10; b++) {
            Check.due(23, "tellers of " + b, x.tellers(b, -1), many[b - 2]);
        }
        for (int b : new int[] {Integer.MIN_VALUE, -1, 0, 1, 11, 12, Integer.MAX_VALUE}) {
            for (int i : new int[] {-1, 0, 1}) {
                Check.refused(23, "tellers of " + b, y -> tell(y, "22"), y -> y.tellers(b, i), BAD);
            }
        }
    }

    /** "how many (i = -1), the i-th. NONE; BAD": rising, and greater than an int. */
    private static void figureOfTellers() {
        TellingRows x = new TellingRows();
        Check.due(23, "the first of two", x.tellers(4, 0), 1210);
        Check.due(23, "the second of two", x.tellers(4, 1), 2020);
        Check.due(23, "behind the second", x.tellers(4, 2), NONE);
        Check.due(23, "the only one", x.tellers(5, 0), 21200);
        Check.due(23, "behind the only one", x.tellers(5, 1), NONE);
        Check.due(23, "the first of none", x.tellers(2, 0), NONE);
        Check.due(23, "greater than an int", x.tellers(10, 0), 6210001000L);
        Check.due(23, "far behind", x.tellers(10, Integer.MAX_VALUE), NONE);
        for (int i : new int[] {Integer.MIN_VALUE, -3, -2}) {
            for (int b = 1; b <= 11; b++) {
                Check.due(23, "tellers(" + b + ", " + i + ")", x.tellers(b, i), BAD);
            }
        }
    }

    /** "How many: 0 bytes of THE TEXT, 1 NUMBERS, 2 FIGURES. BAD.": none, all, each of its own. */
    private static void counts() {
        TellingRows x = new TellingRows();
        for (int what = 0; what < 3; what++) {
            Check.due(24, "count of none", x.count(what), 0);
        }
        Check.write(x, "x".repeat(120));
        Check.due(24, "a full text", x.count(0), 120);
        Check.due(24, "no numbers yet", x.count(1), 0);
        for (int i = 0; i < 40; i++) {
            x.number(i);
        }
        Check.due(24, "forty numbers", x.count(1), 40);
        Check.due(24, "no figures yet", x.count(2), 0);
        for (int i = 0; i < 40; i++) {
            x.figure(1);
        }
        Check.due(24, "forty figures", x.count(2), 40);
        x.wipe();
        Check.due(24, "the text alone is wiped", x.count(0) * 10000 + x.count(1) * 100 + x.count(2), 4040);
        x.noNumbers();
        Check.due(24, "the numbers are none", x.count(1) * 100 + x.count(2), 40);
        x.noFigures();
        Check.due(24, "the figures are none", x.count(2), 0);
        for (int what : new int[] {Integer.MIN_VALUE, -2, -1, 3, 4, Integer.MAX_VALUE}) {
            Check.refused(24, "count of " + what, y -> tell(y, "22"), y -> y.count(what), BAD);
        }
    }
}
