/** Promises 17 to 24: figures said, counted and taken back, tellers, and how many there are. */
public final class FiguresTest {
    private static final int BAD = TellingRows.BAD, NO = TellingRows.NO;
    private static final int FULL = TellingRows.FULL, NONE = TellingRows.NONE;

    public static void main(String[] args) {
        figure();
        noFigures();
        said();
        saidOnTheWay();
        counted();
        unsaid();
        backs();
        round();
        tellers();
        count();
        Check.end(17, 24);
    }

    private static void figure() {
        TellingRows x = new TellingRows();
        Check.due(17, "figure(0)", x.figure(0), BAD);
        Check.due(17, "figure(10)", x.figure(10), BAD);
        Check.due(17, "figure(-1)", x.figure(-1), BAD);
        Check.due(17, "none came", x.count(2), 0);
        x = Check.with("1928374655912837465591283746559128374655");
        Check.due(17, "figure too many", x.figure(1), FULL);
        Check.due(17, "BAD goes before FULL", x.figure(0), BAD);
        Check.due(17, "still as many", x.count(2), 40);
        Check.due(17, "the second", x.said(false, 0, 1), 9);
        Check.due(17, "the last", x.said(false, 0, 39), 5);
    }

    private static void noFigures() {
        TellingRows x = new TellingRows();
        Check.due(18, "noFigures of none", x.noFigures(), 0);
        x = Check.with("123");
        Check.due(18, "noFigures", x.noFigures(), 3);
        Check.due(18, "none are left", x.count(2), 0);
        Check.due(18, "none are left", x.said(false, 0, 0), NONE);
        Check.due(18, "figure anew", x.figure(7), 1);
        Check.due(18, "the new one", x.said(false, 0, 0), 7);
    }

    private static void said() {
        Check.saidIs("", false, 0, "");
        Check.saidIs("", false, 12, "");
        Check.saidIs("1", false, 0, "1");
        Check.saidIs("1", false, 1, "11");
        Check.saidIs("1", false, 2, "21");
        Check.saidIs("1", false, 3, "1211");
        Check.saidIs("1", false, 4, "111221");
        Check.saidIs("1", false, 5, "312211");
        Check.saidIs("1", false, 6, "13112221");
        Check.saidIs("1", false, 7, "1113213211");
        Check.saidIs("22", false, 12, "22");
        Check.saidIs("3", false, 4, "132113");
        Check.saidIs("999999999", false, 1, "99");
        Check.saidIs("999999999", false, 2, "29");
        Check.saidIs("1223334444", false, 1, "11223344");
        TellingRows x = Check.with("1");
        int[] lengths = {1, 2, 2, 4, 6, 6, 8, 10, 14, 20, 26, 34, 46};
        for (int k = 0; k < lengths.length; k++) {
            Check.due(19, "how many of 1 said " + k, x.said(false, k, -1), lengths[k]);
        }
        Check.due(19, "said 13 times", x.said(false, 13, -1), BAD);
        Check.due(19, "said -1 times", x.said(false, -1, -1), BAD);
        Check.due(19, "said at -2", x.said(false, 1, -2), BAD);
        Check.due(19, "counted 13 times", x.said(true, 13, 0), BAD);
        Check.due(19, "counted at -2", x.said(true, 1, -2), BAD);
    }

    private static void saidOnTheWay() {
        TellingRows x = Check.with("7777777777");
        Check.due(19, "not said at all", x.said(false, 0, -1), 10);
        Check.due(19, "a run of ten", x.said(false, 1, -1), NO);
        Check.due(19, "a run of ten", x.said(false, 2, 0), NO);
        Check.due(19, "NO goes before NONE", x.said(false, 1, 500), NO);
        Check.due(19, "BAD goes before NO", x.said(false, 1, -2), BAD);
        Check.due(19, "BAD goes before NO", x.said(false, 13, 0), BAD);
        Check.due(19, "ten of one sort", x.said(true, 1, -1), NO);
        x = Check.with("1777777777");
        Check.due(19, "a run of nine", x.said(false, 1, 2), 9);
        x.figure(7);
        Check.due(19, "a run of ten at the end", x.said(false, 1, -1), NO);
        x = Check.with("12345".repeat(8));
        Check.due(19, "unlike side by side", x.said(false, 1, -1), 80);
        Check.due(19, "said twelve times", x.said(false, 12, -1) > 1000 ? 1 : 0, 1);
    }

    private static void counted() {
        Check.saidIs("", true, 12, "");
        Check.saidIs("1", true, 1, "11");
        Check.saidIs("1", true, 2, "21");
        Check.saidIs("1", true, 3, "1112");
        Check.saidIs("1", true, 4, "3112");
        Check.saidIs("1", true, 5, "211213");
        Check.saidIs("1", true, 12, "21322314");
        Check.saidIs("9897", true, 1, "171829");
        Check.saidIs("987654321", true, 1, "111213141516171819");
        Check.saidIs("232323232323232323", true, 1, "9293");
        TellingRows x = Check.with("12121212121212121");
        Check.due(19, "nine of one sort", x.said(true, 1, 0), 9);
        x.figure(2);
        x.figure(1);
        Check.due(19, "ten of one sort", x.said(true, 1, 0), NO);
        // 1 to 9 once each: the first counting has ten ones
        x = Check.with("123456789");
        Check.due(19, "ten ones on the way", x.said(true, 1, -1), 18);
        Check.due(19, "ten ones on the way", x.said(true, 2, -1), NO);
        Check.due(19, "ten ones on the way", x.said(true, 12, -1), NO);
    }

    private static void unsaid() {
        Check.unsaidIs("", "");
        Check.unsaidIs("11", "1");
        Check.unsaidIs("13112221", "312211");
        Check.unsaidIs("22", "22");
        Check.unsaidIs("91", "111111111");
        Check.unsaidIs("9192", "111111111222222222");
        Check.due(20, "all pairs of 9", Check.with("9192".repeat(10)).unsaid(-1), 180);
        Check.due(20, "the last of them", Check.with("9192".repeat(10)).unsaid(179), 2);
        Check.due(20, "behind the last", Check.with("9192".repeat(10)).unsaid(180), NONE);
        for (String none : new String[] {"1", "123", "1111", "1121", "112131", "112212", "12131"}) {
            TellingRows x = Check.with(none);
            Check.due(20, none + " unsaid many", x.unsaid(-1), NO);
            Check.due(20, none + " unsaid at 0", x.unsaid(0), NO);
            Check.due(20, none + " NO goes before NONE", x.unsaid(1000), NO);
            Check.due(20, none + " BAD goes before NO", x.unsaid(-2), BAD);
        }
        Check.due(20, "unsaid(-2)", Check.with("11").unsaid(-2), BAD);
    }

    private static void backs() {
        String[] figures = {"", "1", "11", "21", "1211", "111221", "312211", "13112221", "1113213211", "22", "91",
            "1111", "123", "9192", "1122"};
        int[] backs = {20, 0, 1, 2, 3, 4, 5, 6, 7, 20, 1, 0, 0, 1, 1};
        for (int i = 0; i < figures.length; i++) {
            TellingRows x = Check.with(figures[i]);
            Check.due(21, "backs of " + figures[i], x.backs(), backs[i]);
            Check.due(21, "the figures stay", x.count(2), figures[i].length());
        }
    }

    private static void round() {
        Check.roundIs("", 0, 1);
        Check.roundIs("22", 0, 1);
        Check.roundIs("21322314", 0, 1);
        Check.roundIs("31123314", 0, 1);
        Check.roundIs("21322341", 1, 1);
        Check.roundIs("12", 10, 1);
        Check.roundIs("1", 12, 1);
        Check.roundIs("11", 11, 1);
        Check.roundIs("9192939495969798", 6, 2);
        Check.roundIs("123456789", NO, NO);
        Check.roundIs("1111111111", NO, NO);
    }

    private static void tellers() {
        long[][] want = {{}, {}, {1210, 2020}, {21200}, {}, {3211000}, {42101000}, {521001000}, {6210001000L}};
        for (int b = 2; b <= 10; b++) {
            long[] of = want[b - 2];
            Check.due(23, "tellers(" + b + ", -1)", new TellingRows().tellers(b, -1), of.length);
            for (int i = 0; i < of.length; i++) {
                Check.due(23, "tellers(" + b + ", " + i + ")", new TellingRows().tellers(b, i), of[i]);
            }
            Check.due(23, "tellers behind", new TellingRows().tellers(b, of.length), NONE);
            Check.due(23, "tellers far behind", new TellingRows().tellers(b, Integer.MAX_VALUE), NONE);
            Check.due(23, "tellers(b, -2)", new TellingRows().tellers(b, -2), BAD);
        }
        TellingRows x = new TellingRows();
        Check.due(23, "tellers(1, 0)", x.tellers(1, 0), BAD);
        Check.due(23, "tellers(11, -1)", x.tellers(11, -1), BAD);
        Check.due(23, "tellers(0, 0)", x.tellers(0, 0), BAD);
        Check.due(23, "one behind another", x.tellers(10, 0), 6210001000L);
        Check.due(23, "one behind another", x.tellers(6, 0), NONE);
    }

    private static void count() {
        TellingRows x = Check.with("12345");
        x.number(60000);
        x.number(0);
        Check.write(x, "r0,6;xyz!");
        Check.due(24, "count(0)", x.count(0), 9);
        Check.due(24, "count(1)", x.count(1), 2);
        Check.due(24, "count(2)", x.count(2), 5);
        Check.due(24, "count(3)", x.count(3), BAD);
        Check.due(24, "count(-1)", x.count(-1), BAD);
    }
}
