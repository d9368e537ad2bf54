/** Promises 1 to 12: a new object, the text, the registers and what is asked of a row. */
public final class RowsTest {
    private static final int BAD = TellingRows.BAD, NO = TellingRows.NO;
    private static final int FULL = TellingRows.FULL, NONE = TellingRows.NONE;

    public static void main(String[] args) {
        newObject();
        write();
        wipe();
        faultOfGoodTexts();
        faultOfBadTexts();
        lay();
        told();
        at();
        atEveryEnd();
        atOneBehindAnother();
        first();
        often();
        run();
        most();
        around();
        Check.end(1, 12);
    }

    private static void newObject() {
        TellingRows x = new TellingRows();
        for (int r = 0; r < 4; r++) {
            Check.due(1, "new told sort", x.told(r, 0), 0);
            Check.due(1, "new told many", x.told(r, 1), 2);
            Check.due(1, "new told 0", x.told(r, 2), 1);
            Check.due(1, "new told 1", x.told(r, 3), 1);
            Check.due(1, "new at", x.at(r, 16), 10);
        }
        for (int what = 0; what < 3; what++) {
            Check.due(1, "new count", x.count(what), 0);
        }
        Check.due(1, "new said", x.said(false, 0, -1), 0);
        Check.due(1, "new may", x.may(), 15);
    }

    private static void write() {
        TellingRows x = new TellingRows();
        Check.due(2, "write(0, ..)", x.write(0, 59), BAD);
        Check.due(2, "write(9, ..)", x.write(9, 59), BAD);
        Check.due(2, "write(-1, ..)", x.write(-1, 59), BAD);
        Check.due(2, "nothing came", x.count(0), 0);
        // only the lowest n bytes of v are told, whatever stands above them
        Check.due(2, "write(2, ..)", x.write(2, -1L << 16 | Check.packed("r3")), 2);
        Check.due(2, "write(8, ..)", x.write(8, Check.packed(",2,17,4;")), 10);
        Check.due(2, "it is so", x.lay(), 1);
        Check.due(2, "in order", x.told(3, 2), 17);
        Check.due(2, "in order", x.told(3, 3), 4);
        Check.due(2, "write(8, -1)", x.write(8, -1), 18);
        Check.due(2, "bytes above 127 are there", x.fault(), 10);
        for (int length = 26; length <= 114; length += 8) {
            Check.due(2, "write more", x.write(8, 0), length);
        }
        Check.due(2, "write(7, ..) to 121", x.write(7, 0), FULL);
        Check.due(2, "write(8, ..) to 122", x.write(8, 0), FULL);
        Check.due(2, "nothing came", x.count(0), 114);
        Check.due(2, "write(6, ..) to 120", x.write(6, 0), 120);
        Check.due(2, "write(1, ..) to 121", x.write(1, 0), FULL);
        Check.due(2, "BAD goes before FULL", x.write(9, 0), BAD);
        Check.due(2, "BAD goes before FULL", x.write(0, 0), BAD);
        Check.due(2, "all are there", x.count(0), 120);
    }

    private static void wipe() {
        TellingRows x = new TellingRows();
        Check.due(3, "wipe of none", x.wipe(), 0);
        Check.write(x, "r0,6;r1,2,7;");
        Check.due(3, "wipe", x.wipe(), 12);
        Check.due(3, "wipe again", x.wipe(), 0);
        Check.due(3, "none is left", x.count(0), 0);
        Check.due(3, "nothing is laid", x.lay(), 0);
        Check.due(3, "the registers stay", x.told(1, 0), 0);
        Check.due(3, "written anew", Check.write(x, "r1,2,7;"), 7);
        Check.due(3, "laid anew", x.lay(), 1);
    }

    private static void fault(String text, int place) {
        TellingRows x = new TellingRows();
        Check.write(x, text);
        Check.due(4, "fault of " + text, x.fault(), place);
        Check.due(5, "lay of " + text, x.lay() == NO ? NO : 0, place == NONE ? 0 : NO);
        Check.due(4, "the text stays: " + text, x.count(0), text.length());
    }

    private static void faultOfGoodTexts() {
        String[] texts = {
            "", "r0,0,1,9;", "r3,0,1,2,3,4,5,6;", "r1,1,9,1;", "r1,1,1,1,1,1,1,9;", "r2,2,0;", "r2,2,99,0,1,2,3,4;",
            "r0,3,1;", "r0,3,9,9,9,9,9,9;", "r0,4,1,2;", "r0,4,19,20;", "r0,4,1,20;", "r0,5,0;", "r0,5,9,0,9,0,9,0;",
            "r0,6;", "r0,6,0;", "r0,6,99,99,99,99,99,99;", "r00,06;", "r03,02,00;", "r01,04,01,02;r1,6;",
        };
        for (String text : texts) {
            fault(text, NONE);
        }
    }

    private static void faultOfBadTexts() {
        String[] items = {
            "r0,0,1;", "r0,0;", "r0,0,1,0;", "r0,0,1,10;", "r0,0,1,2,3,4,5,6,7;",
            "r0,1,1;", "r0,1,0,1;", "r0,1,1,10;", "r0,1,1,1,1,1,1,1,1;",
            "r0,2;", "r0,2,100;", "r0,2,1,1,1,1,1,1,1;",
            "r0,3;", "r0,3,0;", "r0,3,10;", "r0,3,1,1,1,1,1,1,1;",
            "r0,4;", "r0,4,1;", "r0,4,1,2,3;", "r0,4,2,2;", "r0,4,3,2;", "r0,4,0,2;", "r0,4,20,21;", "r0,4,1,21;",
            "r0,5;", "r0,5,10;", "r0,5,1,1,1,1,1,1,1;",
            "r0,6,100;", "r0,6,1,1,1,1,1,1,1;", "r0,6,;", "r0,6,,1;",
            "r0,7;", "r0,7,1,2;", "r4,6;", "r10,6;", "r;", "r0;", "r0,;", "r,6;", "r000,6;", "r0,006;", "r0,2,001;",
            "R0,6;", "0,6;", ";", "r0,6", "r0,6,1", "r", "r0", "r0,", "rr0,6;", "r 0,6;", "r0,6 ;", "r0.6;", "r-0,6;",
            "r0,6,1,2,3,4,5,6,7,8,9,10,11;", " r0,6;", "r0,+6;", "r0,2,1:", "r0,2,1/;", "r0,2,1,", "r0,2,a;",
        };
        for (String item : items) {
            fault(item, 0);
            fault("r0,2,1;" + item, 7);
            fault("r3,6;r1,4,1,20;" + item, 15);
            fault("r3,6;" + item + "r2,6;", 5);
        }
        fault("r0,6;\n", 5);
        fault("r0,6;;r1,6;", 5);
        fault("x;r0,6;", 0);
        fault("r0,2,1;r1,2;r0,9;", 7);
    }

    private static void lay() {
        TellingRows x = new TellingRows();
        Check.due(5, "lay of none", x.lay(), 0);
        Check.write(x, "r1,2,5;r3,6;r1,5,9,8;");
        Check.due(5, "lay", x.lay(), 3);
        Check.due(5, "the text stays", x.count(0), 21);
        Check.due(5, "the last item holds", x.told(1, 0), 5);
        Check.due(5, "the last item holds", x.told(1, 1), 2);
        Check.due(5, "another register", x.told(3, 0), 6);
        Check.due(5, "others stay", x.told(0, 0), 0);
        Check.due(5, "others stay", x.told(2, 1), 2);
        Check.due(5, "laid again", x.lay(), 3);
        Check.due(5, "the row is looked at", x.at(1, 2), 1);
        x.wipe();
        Check.write(x, "r1,4,2,3;r0,0,1;");
        Check.due(5, "lay of a fault", x.lay(), NO);
        Check.due(5, "nothing changes then", x.told(1, 0), 5);
        Check.due(5, "nothing changes then", x.count(0), 16);
        x.wipe();
        Check.write(x, "r1,4,2,3;");
        Check.due(5, "lay", x.lay(), 1);
        Check.due(5, "the row is another", x.at(1, 2), 5);
        Check.due(5, "its beginnings too", x.at(1, 0), 2);
        StringBuilder full = new StringBuilder();
        for (int i = 0; i < 24; i++) {
            full.append("r").append(i % 4).append(",6;");
        }
        x.wipe();
        Check.due(5, "a full text", Check.write(x, full.toString()), 120);
        Check.due(5, "lay of a full text", x.lay(), 24);
    }

    private static void told() {
        TellingRows x = Check.laid("r0,6;r1,2,99,0,7;r2,4,19,20;r3,0,1,2,3,4,5,6;");
        int[][] want = {
            {6, 0, NONE, NONE, NONE, NONE, NONE, NONE},
            {2, 3, 99, 0, 7, NONE, NONE, NONE},
            {4, 2, 19, 20, NONE, NONE, NONE, NONE},
            {0, 6, 1, 2, 3, 4, 5, 6},
        };
        for (int r = 0; r < 4; r++) {
            for (int what = 0; what < 8; what++) {
                Check.due(6, "told(" + r + ", " + what + ")", x.told(r, what), want[r][what]);
            }
            Check.due(6, "told(r, 8)", x.told(r, 8), BAD);
            Check.due(6, "told(r, -1)", x.told(r, -1), BAD);
        }
        Check.due(6, "told(4, 0)", x.told(4, 0), BAD);
        Check.due(6, "told(-1, 7)", x.told(-1, 7), BAD);
        Check.due(6, "told of the last", Check.laid("r0,1,2,1;r0,3,2;r0,5,4;").told(0, 0), 5);
        Check.due(6, "told of 3", Check.laid("r0,3,2;").told(0, 0), 3);
        Check.due(6, "told of 1", Check.laid("r0,1,2,1;").told(0, 0), 1);
    }

    /** Rows that are well known, and some told by hand. */
    private static void at() {
        Check.rowIs("r0,0,1,1;", 1, 1, 2, 3, 3, 4, 5, 5, 6, 6, 6, 8, 8, 8, 10, 9, 10, 11, 11, 12);
        Check.rowIs("r0,1,1,1;", 1, 1, 2, 2, 3, 4, 4, 4, 5, 6, 7, 7, 8, 8, 8, 8, 9, 10, 11, 12);
        Check.rowIs("r0,2,0;", 0, 0, 1, 0, 2, 0, 2, 2, 1, 6, 0, 5, 0, 2, 6, 5, 4, 0, 5, 3, 0, 3, 2, 9);
        Check.rowIs("r0,2,5,5,5;", 5, 5, 5, 1, 0, 0, 1, 3, 0, 3, 2, 0);
        Check.rowIs("r0,3,1;", 1, 1, 2, 1, 1, 2, 2, 2, 3, 1, 1, 2, 1, 1, 2, 2, 2, 3, 2, 1);
        Check.rowIs("r0,3,2,3,2,3;", 2, 3, 2, 3, 2, 2, 2, 3, 1, 1, 2, 1, 1, 2, 2, 2, 3);
        Check.rowIs("r0,4,1,2;", 1, 2, 3, 4, 6, 8, 11, 13, 16, 18, 26, 28, 36, 38, 47, 48, 53, 57, 62, 69);
        Check.rowIs("r0,4,2,3;", 2, 3, 5, 7, 8, 9, 13, 14, 18, 19, 24, 25, 29, 30, 35, 36, 40);
        Check.rowIs("r0,5,1;", 1, 1, 2, 1, 3, 1, 4, 1, 5, 1);
        Check.rowIs("r0,5,0;", 0, 1, 1, 2, 1, 3, 1, 4, 1, 5);
        Check.rowIs("r0,5,0,0,7;", 0, 0, 7, 1, 1, 2, 1, 3, 1, 4, 1, 5);
        Check.rowIs("r0,6;", 0, 0, 1, 0, 0, 1, 1, 3, 3, 0, 0, 1, 0, 0, 1, 1, 3, 3, 1, 3, 3, 4, 4, 7, 4, 4);
        Check.rowIs("r0,6,1;", 1, 0, 0, 1, 0, 0, 2);
        Check.rowIs("r0,6,0,99;", 0, 99, 0, 0, 1, 0, 1);
        TellingRows x = Check.laid("r0,4,1,2;");
        Check.due(7, "at(0, 1999)", x.at(0, 1999), 25511);
        Check.due(7, "at(0, 2000)", x.at(0, 2000), BAD);
        Check.due(7, "at(0, -1)", x.at(0, -1), BAD);
        Check.due(7, "at(4, 0)", x.at(4, 0), BAD);
        Check.due(7, "at(-1, 0)", x.at(-1, 0), BAD);
    }

    /** Where rows end: ahead of place 0, behind all places so far, above 60000. */
    private static void atEveryEnd() {
        Check.rowIs("r0,0,1,3;", 1, 3, NONE, NONE);
        Check.rowIs("r0,0,3,1;", 3, 1, NONE);
        Check.rowIs("r0,0,2,2;", 2, 2, 4, NONE);
        Check.rowIs("r0,0,2,1;", 2, 1, 3, 5, NONE);
        Check.rowIs("r0,0,1,2;", 1, 2, 3, 3, 4);
        Check.rowIs("r0,1,9,9;", 9, 9, NONE);
        Check.rowIs("r0,1,1,2;", 1, 2, 3, 4, 5, 6, 7);
        Check.rowIs("r0,1,5,2,1;", 5, 2, 1, 6, NONE);
        Check.rowIs("r0,1,3,1;", 3, 1, 4, NONE);
        Check.rowIs("r0,1,1,3;", 1, 3, NONE);
        // each number is three times one of 1, 2: it ends where that is above 20000
        TellingRows x = Check.laid("r0,4,3,6;r1,4,2,4;r2,4,1,2;");
        int fits = 0;
        int above = 1999;
        while (above - fits > 1) {
            int middle = (fits + above) / 2;
            if (x.at(2, middle) <= 20000) {
                fits = middle;
            } else {
                above = middle;
            }
        }
        Check.due(7, "the last one", x.at(0, fits), 3L * x.at(2, fits));
        Check.due(7, "the row ends", x.at(0, above), NONE);
        Check.due(7, "the row has ended", x.at(0, 1999), NONE);
        Check.due(12, "nor goes it round", x.around(0, 0), NONE);
        Check.due(11, "the last is the greatest", x.most(0, 2000, 1), fits);
        Check.due(7, "this one does not", x.at(1, 1999), 51022);
        Check.due(7, "BAD goes before NONE", x.at(0, 2000), BAD);
        TellingRows last = Check.laid("r0,4,5,15;r1,4,8,16;");
        Check.due(7, "60000 itself", last.at(0, 1495), 60000);
        Check.due(7, "behind it", last.at(0, 1496), NONE);
        Check.due(7, "60000 itself", last.at(1, 637), 60000);
        Check.due(7, "behind it", last.at(1, 638), NONE);
        Check.due(8, "60000 is found", last.first(1, 60000), 637);
        Check.due(9, "60000 is there", last.often(0, 60000, 2000), 1);
        Check.due(11, "60000 is the greatest", last.most(1, 2000, 0), 60000);
        last.number(8);
        last.number(16);
        Check.due(15, "numbers of sums", last.may(), 2);
    }

    /** What one row needed must not tell in the next. */
    private static void atOneBehindAnother() {
        TellingRows x = new TellingRows();
        for (int sort = 2; sort < 7; sort++) {
            for (int next = 2; next < 7; next++) {
                TellingRows alone = Check.laid("r0," + next + ",2,3;");
                Check.write(x, "r0," + sort + ",1,2;r1," + next + ",2,3;");
                Check.due(5, "lay", x.lay(), 2);
                Check.due(3, "wipe", x.wipe(), 18);
                x.at(0, 0);
                for (int i = 2; i < 10; i++) {
                    Check.due(7, "sort " + next + " behind " + sort, x.at(1, i), alone.at(0, i));
                }
                x.most(0, 2000, 3);
            }
        }
        // this row's end has like numbers side by side
        x = Check.laid("r0,3,1,2;r1,3,1,1;");
        Check.due(7, "the end", x.at(0, 1998), x.at(0, 1997));
        Check.due(7, "two ones", x.at(1, 2), 2);
        Check.due(7, "two ones and a two", x.at(1, 3), 1);
    }

    private static void first() {
        TellingRows x = Check.laid("r1,2,0;r2,4,1,2;r3,0,1,3;");
        Check.due(8, "first 0", x.first(1, 0), 0);
        Check.due(8, "first 1", x.first(1, 1), 2);
        Check.due(8, "first 6", x.first(1, 6), 9);
        Check.due(8, "first 3", x.first(1, 3), 19);
        Check.due(8, "first 60000", x.first(1, 60000), NONE);
        Check.due(8, "first 60001", x.first(1, 60001), BAD);
        Check.due(8, "first -1", x.first(1, -1), BAD);
        Check.due(8, "first 5", x.first(2, 5), NONE);
        Check.due(8, "first of the last place", x.first(2, 25511), 1999);
        Check.due(8, "first ahead of the end", x.first(3, 3), 1);
        Check.due(8, "first behind the end", x.first(3, 0), NONE);
        Check.due(8, "first(4, ..)", x.first(4, 0), BAD);
        Check.due(8, "first(-1, ..)", x.first(-1, 0), BAD);
    }

    private static void often() {
        TellingRows x = Check.laid("r1,5,1;r2,3,1;r3,0,1,3;");
        Check.due(9, "often 1 of 2000", x.often(1, 1, 2000), 1001);
        Check.due(9, "often 1 of 10", x.often(1, 1, 10), 6);
        Check.due(9, "often 1 of 1", x.often(1, 1, 1), 1);
        Check.due(9, "often 1 of 0", x.often(1, 1, 0), 0);
        Check.due(9, "often 1000 of 2000", x.often(1, 1000, 2000), 1);
        Check.due(9, "often 60000", x.often(1, 60000, 2000), 0);
        Check.due(9, "often 0", x.often(1, 0, 2000), 0);
        Check.due(9, "often 2 of 20", x.often(2, 2, 20), 9);
        Check.due(9, "often 2 of 19", x.often(2, 2, 19), 9);
        Check.due(9, "often 2 of 18", x.often(2, 2, 18), 8);
        Check.due(9, "often to the end", x.often(3, 3, 2000), 1);
        Check.due(9, "often of n 2001", x.often(1, 1, 2001), BAD);
        Check.due(9, "often of n -1", x.often(1, 1, -1), BAD);
        Check.due(9, "often of v 60001", x.often(1, 60001, 5), BAD);
        Check.due(9, "often of v -1", x.often(1, -1, 5), BAD);
        Check.due(9, "often(4, ..)", x.often(4, 1, 5), BAD);
        Check.due(9, "often(-1, ..)", x.often(-1, 1, 5), BAD);
    }

    private static void run() {
        TellingRows x = Check.laid("r1,3,1;r2,0,1,3;r3,4,1,2;");
        int[][] want = {{1, 2, 0}, {2, 1, 2}, {1, 2, 3}, {2, 3, 5}, {3, 1, 8}, {1, 2, 9}, {2, 1, 11}, {1, 2, 12}};
        for (int k = 0; k < want.length; k++) {
            for (int what = 0; what < 3; what++) {
                Check.due(10, "run(1, " + k + ", " + what + ")", x.run(1, k, what), want[k][what]);
            }
        }
        Check.due(10, "run to the end", x.run(2, 1, 1), 1);
        Check.due(10, "run to the end", x.run(2, 1, 2), 1);
        for (int what = 0; what < 3; what++) {
            Check.due(10, "run behind the end", x.run(2, 2, what), NONE);
            Check.due(10, "run behind the last place", x.run(3, 2000, what), NONE);
            Check.due(10, "run of no such k", x.run(3, Integer.MAX_VALUE, what), NONE);
            Check.due(10, "run(1, -1, ..)", x.run(1, -1, what), BAD);
            Check.due(10, "run(4, 0, ..)", x.run(4, 0, what), BAD);
            Check.due(10, "run(-1, 0, ..)", x.run(-1, 0, what), BAD);
        }
        Check.due(10, "the last run", x.run(3, 1999, 2), 1999);
        Check.due(10, "the last run", x.run(3, 1999, 1), 1);
        Check.due(10, "BAD goes before NONE", x.run(2, 2, 3), BAD);
        Check.due(10, "run(1, 0, -1)", x.run(1, 0, -1), BAD);
        TellingRows ones = Check.laid("r0,2,1,1;");
        Check.due(10, "a run to place 1999", ones.run(0, 0, 1), 2000);
        Check.due(10, "a run to place 1999", ones.run(0, 1, 1), NONE);
    }

    private static void most() {
        TellingRows x = Check.laid("r1,3,1;r2,0,2,2;r3,2,1,1;");
        int[][] want = {{1, 1, 0, 1, 1}, {2, 1, 0, 2, 1}, {3, 2, 2, 2, 2}, {8, 2, 2, 3, 2}, {7, 2, 2, 2, 2},
            {9, 3, 8, 3, 3}, {18, 3, 8, 3, 3}, {2000, 4, 219, 4, 4}};
        for (int[] row : want) {
            for (int what = 0; what < 4; what++) {
                Check.due(11, "most(1, " + row[0] + ", " + what + ")", x.most(1, row[0], what), row[what + 1]);
            }
        }
        for (int n = 3; n <= 2000; n += 1997) {
            Check.due(11, "most to the end", x.most(2, n, 0), 4);
            Check.due(11, "most to the end", x.most(2, n, 1), 2);
            Check.due(11, "most to the end", x.most(2, n, 2), 2);
            Check.due(11, "most to the end", x.most(2, n, 3), 2);
        }
        Check.due(11, "all alike", x.most(3, 2000, 2), 2000);
        Check.due(11, "first n alike", x.most(3, 1999, 2), 1999);
        Check.due(11, "all alike", x.most(3, 2000, 3), 1);
        Check.due(11, "all unlike", Check.laid("r0,4,2,4;").most(0, 2000, 3), 2000);
        for (int what = 0; what < 4; what++) {
            Check.due(11, "most(1, 0, ..)", x.most(1, 0, what), BAD);
            Check.due(11, "most(1, 2001, ..)", x.most(1, 2001, what), BAD);
            Check.due(11, "most(4, 1, ..)", x.most(4, 1, what), BAD);
            Check.due(11, "most(-1, 1, ..)", x.most(-1, 1, what), BAD);
        }
        Check.due(11, "most(1, 1, 4)", x.most(1, 1, 4), BAD);
        Check.due(11, "most(1, 1, -1)", x.most(1, 1, -1), BAD);
    }

    private static void around() {
        Check.aroundIs("r0,2,1,1;", 1, 0);
        Check.aroundIs("r0,2,9,1,1;", 1, 1);
        Check.aroundIs("r0,2,9,8,7,1,1;", 1, 3);
        // no more than three periods from the tail to place 1999
        Check.aroundIs("r0,1,1,1,1,2,1;", 2, 1994);
        Check.aroundIs("r0,1,1,2,3,4,1;", 4, 1986);
        Check.aroundIs("r0,0,1,1;", NONE, NONE);
        Check.aroundIs("r0,3,1;", NONE, NONE);
        Check.aroundIs("r0,0,1,3;", NONE, NONE);
        // a row that ends soon goes round too where three periods stand behind its tail
        Check.aroundIs("r0,0,5,5,5;", 1, 0);
        Check.aroundIs("r0,0,5,5;", NONE, NONE);
        Check.aroundIs("r0,0,4,5,5,5;", 1, 1);
        Check.aroundIs("r0,0,9,8,9,8,9,8;", 2, 0);
        Check.aroundIs("r0,0,9,8,9,8,9;", NONE, NONE);
        TellingRows x = new TellingRows();
        Check.due(12, "around(0, 2)", x.around(0, 2), BAD);
        Check.due(12, "around(0, -1)", x.around(0, -1), BAD);
        Check.due(12, "around(4, 0)", x.around(4, 0), BAD);
        Check.due(12, "around(-1, 1)", x.around(-1, 1), BAD);
    }
}
