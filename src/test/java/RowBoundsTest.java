import java.util.function.ToLongFunction;

/** Promises 7 to 16: each sentence of the document that names a bound of the rows, and of numbers that break them. */
public final class RowBoundsTest {
    private static final int BAD = TellingRows.BAD, FULL = TellingRows.FULL, NONE = TellingRows.NONE;
    private static final int[] NO_REGISTERS = {Integer.MIN_VALUE, -2, -1, 4, 5, Integer.MAX_VALUE};

    public static void main(String[] args) {
        registers0To3();
        places0To1999();
        reachEnds();
        foldEnds();
        back();
        again();
        sums();
        soFar();
        free();
        first();
        oftenOfPlaces0To2000();
        runs();
        runsToTheEnd();
        mostOfPlaces1To2000();
        mostOfSeveral();
        roundOfThreePeriods();
        roundLeast();
        roundBad();
        numbers0To60000();
        fortyNumbers();
        breaksAtTheEdges();
        breaksWhereTheRowEnds();
        mayAsBits();
        Check.end(7, 16);
    }

    /** "REGISTERS 0 to 3", in each call that asks for one. */
    private static void registers0To3() {
        for (int r = 0; r < 4; r++) {
            TellingRows x = Check.laid("r" + r + ",2,7;");
            Check.due(7, "at " + r, x.at(r, 0), 7);
            Check.due(8, "first " + r, x.first(r, 7), 0);
            Check.due(9, "often " + r, x.often(r, 7, 1), 1);
            Check.due(10, "run " + r, x.run(r, 0, 0), 7);
            Check.due(11, "most " + r, x.most(r, 1, 0), 7);
            Check.due(12, "around " + r, x.around(r, 0), NONE);
            x.number(7);
            Check.due(15, "breaks " + r, x.breaks(r), NONE);
            Check.due(16, "may " + r, x.may(), 1 << r);
        }
        for (int r : NO_REGISTERS) {
            refused(7, "at " + r, x -> x.at(r, 0));
            refused(8, "first " + r, x -> x.first(r, 1));
            refused(9, "often " + r, x -> x.often(r, 1, 1));
            refused(10, "run " + r, x -> x.run(r, 0, 0));
            refused(11, "most " + r, x -> x.most(r, 1, 0));
            refused(12, "around " + r, x -> x.around(r, 0));
            refused(15, "breaks " + r, x -> x.breaks(r));
        }
    }

    /** A call that is BAD, and changes nothing of what is laid, told and written. */
    private static void refused(int promise, String call, ToLongFunction<TellingRows> refused) {
        Check.refused(promise, call, RowBoundsTest::some, refused, BAD);
    }

    private static void some(TellingRows x) {
        Check.write(x, "r0,5,1;r1,0,1,3;r2,2,0;");
        x.lay();
        x.number(1);
        x.number(1);
        x.figure(3);
    }

    /** "ROWS of 2000 places, 0, 1, ..". */
    private static void places0To1999() {
        String[] items = {"r0,0,1,1;", "r0,1,1,2;", "r0,2,1,1;", "r0,3,1;", "r0,4,1,2;", "r0,5,0;", "r0,6;"};
        int[] lasts = {1005, 2000, 1, 3, 25511, 1000, 11};
        for (int sort = 0; sort < items.length; sort++) {
            TellingRows x = Check.laid(items[sort]);
            Check.due(7, "the last place", x.at(0, 1999), lasts[sort]);
            for (int i : new int[] {Integer.MIN_VALUE, -2, -1, 2000, 2001, 60000, Integer.MAX_VALUE}) {
                Check.due(7, "at(0, " + i + ") of " + items[sort], x.at(0, i), BAD);
            }
        }
        TellingRows ended = Check.laid("r0,0,1,3;");
        Check.due(7, "the last number", ended.at(0, 1), 3);
        Check.due(7, "the row ends ahead of it", ended.at(0, 2), NONE);
        Check.due(7, "the row ended far ahead of it", ended.at(0, 1999), NONE);
        Check.due(7, "BAD goes before NONE", ended.at(0, 2000), BAD);
        Check.due(7, "BAD goes before NONE", ended.at(0, -1), BAD);
    }

    /**
     * REACH "where one would be ahead of place 0 the ROW ENDS": place 0 itself is reached. (No sum comes above
     * 60000: a number above its own place ends the row at once.)
     */
    private static void reachEnds() {
        Check.rowIs("r0,0,1,2;", 1, 2, 3, 3);
        Check.rowIs("r0,0,2,1;", 2, 1, 3, 5, NONE);
        Check.rowIs("r0,0,2,2;", 2, 2, 4, NONE);
        Check.rowIs("r0,0,1,3;", 1, 3, NONE);
        Check.rowIs("r0,0,3,1;", 3, 1, NONE);
        Check.rowIs("r0,0,3,3;", 3, 3, NONE);
        Check.rowIs("r0,0,9,9,9,9,9,6;", 9, 9, 9, 9, 9, 6, NONE);
        Check.rowIs("r0,0,5,7,7,7,6,6;", 5, 7, 7, 7, 6, 6, 10, NONE);
        Check.rowIs("r0,0,5,7,7,7,7,6;", 5, 7, 7, 7, 7, 6, NONE);
        Check.rowIs("r0,0,5,7,7,7,6,7;", 5, 7, 7, 7, 6, 7, NONE);
        TellingRows x = Check.laid("r0,0,7,5,4,7,2,1;");
        Check.due(7, "a late end, the last number", x.at(0, 1985) > 0 ? 1 : 0, 1);
        Check.due(7, "a late end", x.at(0, 1986), NONE);
        Check.due(7, "beginnings are never ahead of an end", x.at(0, 5), 1);
    }

    /** FOLD "it ENDS likewise (also where there is no x-th one yet)": the last one and place 0 still count. */
    private static void foldEnds() {
        Check.rowIs("r0,1,1,2;", 1, 2, 3, 4, 5, 6, 7);
        Check.rowIs("r0,1,1,3;", 1, 3, NONE);
        Check.rowIs("r0,1,2,2;", 2, 2, 4, NONE);
        Check.rowIs("r0,1,9,1;", 9, 1, 10, NONE);
        Check.rowIs("r0,1,5,5,5,5,5,5;", 5, 5, 5, 5, 5, 5, 10, NONE);
        Check.rowIs("r0,1,5,6,7,8,9,6;", 5, 6, 7, 8, 9, 6, 11, NONE);
        Check.rowIs("r0,1,5,6,7,8,9,7;", 5, 6, 7, 8, 9, 7, NONE);
        Check.rowIs("r0,1,3,4,9,9,9,1;", 3, 4, 9, 9, 9, 1, 4, 18, NONE);
        Check.due(7, "to the last place", Check.laid("r0,1,1,2;").at(0, 1999), 2000);
    }

    /** BACK "0, if the number ahead has not stood farther ahead; else how many places it stood ahead of it last". */
    private static void back() {
        Check.rowIs("r0,2,7;", 7, 0, 0, 1, 0, 2);
        Check.rowIs("r0,2,7,7;", 7, 7, 1, 0, 0, 1, 3);
        Check.rowIs("r0,2,5,9,8,7,6,5;", 5, 9, 8, 7, 6, 5, 5, 1, 0, 0, 1);
        Check.rowIs("r0,2,5,5,1,5;", 5, 5, 1, 5, 2, 0);
        Check.rowIs("r0,2,0,99,0;", 0, 99, 0, 2, 0, 2);
        Check.rowIs("r0,2,99,99;", 99, 99, 1, 0);
        Check.rowIs("r0,2,99;", 99, 0, 0, 1);
    }

    /** AGAIN "the most k so that what is ahead ends in k like blocks": of one number, of half of all, of many. */
    private static void again() {
        Check.rowIs("r0,3,9;", 9, 1, 1, 2, 1);
        Check.rowIs("r0,3,9,9;", 9, 9, 2);
        Check.rowIs("r0,3,4,4,4,4,4,4;", 4, 4, 4, 4, 4, 4, 6);
        Check.rowIs("r0,3,1,2,3,1,2,3;", 1, 2, 3, 1, 2, 3, 2);
        Check.rowIs("r0,3,9,2,3,1,2,3;", 9, 2, 3, 1, 2, 3, 1);
        Check.rowIs("r0,3,7,8,7,8,7,8;", 7, 8, 7, 8, 7, 8, 3);
        Check.rowIs("r0,3,8,7,8,7,8;", 8, 7, 8, 7, 8, 2);
        Check.rowIs("r0,3,9,9,8,9,9,8;", 9, 9, 8, 9, 9, 8, 2);
        Check.rowIs("r0,3,8,9,9,8,9,9;", 8, 9, 9, 8, 9, 9, 2);
        Check.rowIs("r0,3,8,9,9,9,9,9;", 8, 9, 9, 9, 9, 9, 5);
        Check.rowIs("r0,3,9,9,9,9,9,8;", 9, 9, 9, 9, 9, 8, 1);
    }

    /** SUMS "in just one way (two unlike places, whichever is first); above 60000 the ROW ENDS". */
    private static void sums() {
        // 2 + 2 is none of two places, and 5 is 1 + 4 and 2 + 3
        Check.rowIs("r0,4,1,2;", 1, 2, 3, 4, 6, 8, 11);
        Check.rowIs("r0,4,1,20;", 1, 20, 21, 22, 23);
        Check.rowIs("r0,4,19,20;", 19, 20, 39, 58, 59);
        Check.rowIs("r0,4,10,20;", 10, 20, 30, 40, 60, 80, 110);
        TellingRows x = Check.laid("r0,4,5,20;r1,4,8,16;r2,4,5,15;");
        int[] places = {1895, 637, 1495};
        for (int r = 0; r < 3; r++) {
            Check.due(7, "60000 itself", x.at(r, places[r]), 60000);
            Check.due(7, "above it the row ends", x.at(r, places[r] + 1), NONE);
            Check.due(8, "60000 stands there", x.first(r, 60000), places[r]);
            Check.due(11, "it is the greatest", x.most(r, 2000, 0), 60000);
        }
    }

    /** SO FAR "at how many places ahead the number ahead stands (its own, too)". */
    private static void soFar() {
        Check.rowIs("r0,5,9;", 9, 1, 1, 2, 1, 3);
        Check.rowIs("r0,5,0;", 0, 1, 1, 2);
        Check.rowIs("r0,5,9,9,9,9,9,9;", 9, 9, 9, 9, 9, 9, 6, 1, 1, 2);
        Check.rowIs("r0,5,9,8,7,8,9,9;", 9, 8, 7, 8, 9, 9, 3, 1, 1, 2);
        Check.rowIs("r0,5,3,8,3;", 3, 8, 3, 2, 1, 1, 2, 2, 3, 3);
    }

    /** FREE "the least number from 0 on", no beginnings; "rise (or fall, or stay)"; place 0 as the farthest. */
    private static void free() {
        Check.rowIs("r0,6;", 0, 0, 1, 0, 0, 1, 1, 3);
        Check.rowIs("r0,6,0;", 0, 0, 1);
        Check.rowIs("r0,6,0,0;", 0, 0, 1, 0, 0, 1, 1, 3);
        Check.rowIs("r0,6,2,1;", 2, 1, 1);
        Check.rowIs("r0,6,1,1;", 1, 1, 0);
        Check.rowIs("r0,6,99,99;", 99, 99, 0, 0);
        Check.rowIs("r0,6,0,7,3,1,2;", 0, 7, 3, 1, 2, 0);
        // 0 would fall (2, 1, 0), 1 fall (3, 2, 1) and 2 rise (0, 1, 2), that one from place 0 on
        Check.rowIs("r0,6,0,7,3,1,2,1;", 0, 7, 3, 1, 2, 1, 3);
        Check.rowIs("r0,6,1,7,3,1,2,1;", 1, 7, 3, 1, 2, 1, 2);
        // 0 would stay (0, 0, 0)
        Check.rowIs("r0,6,50,99,7,50,0,0;", 50, 99, 7, 50, 0, 0, 1);
    }

    /** "The first place of v. NONE; BAD (v 0 to 60000)." */
    private static void first() {
        TellingRows x = Check.laid("r0,2,0;r1,4,5,20;r2,0,1,3;r3,2,9,9;");
        Check.due(8, "0 at place 0", x.first(0, 0), 0);
        Check.due(8, "1 at place 2", x.first(0, 1), 2);
        Check.due(8, "the last number", x.first(1, 60000), 1895);
        Check.due(8, "of several the first", x.first(3, 9), 0);
        Check.due(8, "0 nowhere", x.first(1, 0), NONE);
        Check.due(8, "60000 nowhere", x.first(0, 60000), NONE);
        Check.due(8, "0 behind the end", x.first(2, 0), NONE);
        Check.due(8, "the last place", Check.laid("r0,4,1,2;").first(0, 25511), 1999);
        for (int v : new int[] {Integer.MIN_VALUE, -4, -1, 60001, 60005, Integer.MAX_VALUE}) {
            refused(8, "first of " + v, y -> y.first(0, v));
            Check.due(8, "BAD in a row that ended", x.first(1, v), BAD);
        }
    }

    /** "At how many of the first n places (0 to 2000) v stands." */
    private static void oftenOfPlaces0To2000() {
        TellingRows x = Check.laid("r0,5,0;r1,4,1,2;r2,0,1,3;r3,2,1,1;");
        Check.due(9, "of no places", x.often(0, 0, 0), 0);
        Check.due(9, "of one place", x.often(0, 0, 1), 1);
        Check.due(9, "of two places", x.often(0, 0, 2), 1);
        Check.due(9, "of all places", x.often(3, 1, 2000), 2000);
        Check.due(9, "of all but one", x.often(3, 1, 1999), 1999);
        Check.due(9, "the last place counts", x.often(1, 25511, 2000), 1);
        Check.due(9, "the last place does not", x.often(1, 25511, 1999), 0);
        Check.due(9, "to the end", x.often(2, 3, 2), 1);
        Check.due(9, "ahead of the end", x.often(2, 3, 1), 0);
        Check.due(9, "behind the end", x.often(2, 3, 2000), 1);
        Check.due(9, "nothing stands behind the end", x.often(2, 0, 2000), 0);
        Check.due(9, "60000 nowhere", x.often(0, 60000, 2000), 0);
        Check.due(9, "60000 once", Check.laid("r0,4,8,16;").often(0, 60000, 2000), 1);
        for (int n : new int[] {Integer.MIN_VALUE, -1, 2001, Integer.MAX_VALUE}) {
            refused(9, "often of n " + n, y -> y.often(0, 1, n));
        }
        for (int v : new int[] {Integer.MIN_VALUE, -4, -1, 60001, Integer.MAX_VALUE}) {
            refused(9, "often of v " + v, y -> y.often(1, v, 2000));
        }
    }

    private static void run(TellingRows x, int r, int k, int number, int length, int place) {
        Check.due(10, "number of run " + k, x.run(r, k, 0), number);
        Check.due(10, "length of run " + k, x.run(r, k, 1), length);
        Check.due(10, "place of run " + k, x.run(r, k, 2), place);
    }

    /** "RUN k (0 first): its number (what = 0), how long it is (1), its first place (2). NONE; BAD." */
    private static void runs() {
        TellingRows x = Check.laid("r0,3,9,9,9,4,7,7;");
        run(x, 0, 0, 9, 3, 0);
        run(x, 0, 1, 4, 1, 3);
        run(x, 0, 2, 7, 2, 4);
        run(x, 0, 3, 2, 1, 6);
        for (int k : new int[] {Integer.MIN_VALUE, -2, -1}) {
            for (int what = 0; what < 3; what++) {
                int asked = what;
                refused(10, "run " + k, y -> y.run(0, k, asked));
            }
        }
        for (int what : new int[] {Integer.MIN_VALUE, -1, 3, 4, Integer.MAX_VALUE}) {
            refused(10, "run 0, what " + what, y -> y.run(0, 0, what));
            refused(10, "BAD goes before NONE, what " + what, y -> y.run(0, 2000, what));
        }
    }

    /** "A RUN: like numbers side by side, as many as there are (to place 1999, or the end)". */
    private static void runsToTheEnd() {
        TellingRows x = Check.laid("r0,2,1,1;r1,4,1,2;r2,0,5,5,5;r3,3,3;");
        run(x, 0, 0, 1, 2000, 0);
        run(x, 0, 1, NONE, NONE, NONE);
        run(x, 1, 1999, 25511, 1, 1999);
        run(x, 1, 2000, NONE, NONE, NONE);
        run(x, 2, 0, 5, 3, 0);
        run(x, 2, 1, NONE, NONE, NONE);
        run(x, 2, Integer.MAX_VALUE, NONE, NONE, NONE);
        TellingRows late = Check.laid("r0,0,7,5,4,7,2,1;");
        int runs = runsOf(late, 0);
        Check.due(10, "the last run ends with the row", late.run(0, runs - 1, 2) + late.run(0, runs - 1, 1), 1986);
        Check.due(10, "none behind it", late.run(0, runs, 2), NONE);
        int again = runsOf(x, 3);
        run(x, 3, again - 1, x.at(3, 1999), 3, 1997);
        run(x, 3, again, NONE, NONE, NONE);
    }

    /** How many runs a row has, found by halving, so that few calls are made. */
    private static int runsOf(TellingRows x, int r) {
        int there = 0;
        int none = 2000;
        while (none - there > 1) {
            int middle = (there + none) / 2;
            if (x.run(r, middle, 2) == NONE) {
                none = middle;
            } else {
                there = middle;
            }
        }
        return there + 1;
    }

    private static void most(TellingRows x, int n, int greatest, int place, int longest, int unlike) {
        Check.due(11, "greatest of " + n, x.most(0, n, 0), greatest);
        Check.due(11, "its place of " + n, x.most(0, n, 1), place);
        Check.due(11, "longest run of " + n, x.most(0, n, 2), longest);
        Check.due(11, "unlike numbers of " + n, x.most(0, n, 3), unlike);
    }

    /** "Of the first n places (1 to 2000, or to the end)". */
    private static void mostOfPlaces1To2000() {
        TellingRows x = Check.laid("r0,4,1,2;");
        most(x, 1, 1, 0, 1, 1);
        most(x, 2, 2, 1, 1, 2);
        most(x, 1999, x.at(0, 1998), 1998, 1, 1999);
        most(x, 2000, 25511, 1999, 1, 2000);
        TellingRows ended = Check.laid("r0,0,3,1,1;");
        most(ended, 2, 3, 0, 1, 2);
        most(ended, 3, 3, 0, 2, 2);
        most(Check.laid("r0,0,2,2;"), 2, 2, 0, 2, 1);
        most(Check.laid("r0,0,2,2;"), 3, 4, 2, 2, 2);
        most(Check.laid("r0,0,2,2;"), 4, 4, 2, 2, 2);
        most(Check.laid("r0,0,2,2;"), 2000, 4, 2, 2, 2);
        most(Check.laid("r0,6;"), 1, 0, 0, 1, 1);
        for (int what = 0; what < 4; what++) {
            int asked = what;
            for (int n : new int[] {Integer.MIN_VALUE, -1, 0, 2001, Integer.MAX_VALUE}) {
                refused(11, "most of n " + n, y -> y.most(0, n, asked));
            }
        }
        for (int what : new int[] {Integer.MIN_VALUE, -1, 4, 5, Integer.MAX_VALUE}) {
            refused(11, "most, what " + what, y -> y.most(0, 5, what));
        }
    }

    /** "the greatest number, its first place, the longest RUN of them": of several the first, and cut behind n. */
    private static void mostOfSeveral() {
        TellingRows x = Check.laid("r0,2,8,8,3,9,9,9;");
        most(x, 1, 8, 0, 1, 1);
        most(x, 2, 8, 0, 2, 1);
        most(x, 3, 8, 0, 2, 2);
        most(x, 4, 9, 3, 2, 3);
        most(x, 5, 9, 3, 2, 3);
        most(x, 6, 9, 3, 3, 3);
        most(x, 7, 9, 3, 3, 4);
        most(x, 8, 9, 3, 3, 5);
        most(Check.laid("r0,2,1,1;"), 1000, 1, 0, 1000, 1);
        most(Check.laid("r0,2,1,1;"), 2000, 1, 0, 2000, 1);
        most(Check.laid("r0,2,99,0,99;"), 3, 99, 0, 1, 2);
        // 60000 and 0 are numbers like others
        most(Check.laid("r0,4,8,16;"), 638, 60000, 637, 1, 638);
        most(Check.laid("r0,6,0,0;"), 2, 0, 0, 2, 1);
    }

    /** "there are 3 PERIODS at least from TAIL to the end": just three, and one place less. */
    private static void roundOfThreePeriods() {
        Check.aroundIs("r0,0,5,5,5;", 1, 0);
        Check.aroundIs("r0,0,5,5;", NONE, NONE);
        Check.aroundIs("r0,0,9,8,9,8,9,8;", 2, 0);
        Check.aroundIs("r0,0,9,8,9,8,9;", NONE, NONE);
        Check.aroundIs("r0,0,8,8,9,8,9,8;", NONE, NONE);
        Check.aroundIs("r0,0,7,8,9,7,8,9;", NONE, NONE);
        Check.aroundIs("r0,0,1,3;", NONE, NONE);
        // these go on to place 1999: three numbers, three fours, three thirteens stand from the tail on, or two numbers
        Check.aroundIs("r0,3,3;", 1, 1997);
        Check.aroundIs("r0,3,2,2,1,2;", 4, 1988);
        Check.aroundIs("r0,3,1,1,2,2;", 13, 1961);
        Check.aroundIs("r0,3,1,1,1;", NONE, NONE);
        TellingRows two = Check.laid("r0,3,1,1,1;");
        Check.due(12, "two like numbers", two.at(0, 1998), two.at(0, 1999));
        Check.due(12, "and another one", two.at(0, 1997) == two.at(0, 1999) ? 1 : 0, 0);
    }

    /** "the least PERIOD (1 to 600), and with it the least TAIL". */
    private static void roundLeast() {
        Check.aroundIs("r0,2,1,1;", 1, 0);
        Check.aroundIs("r0,2,3,1,1;", 1, 1);
        Check.aroundIs("r0,2,6,5,4,3,1,1;", 1, 4);
        Check.aroundIs("r0,2,1,2,3,4,1,1;", 1, 4);
        Check.aroundIs("r0,0,9,9,9,9,9,9;", 1, 0);
        Check.aroundIs("r0,0,8,9,9,9;", 1, 1);
        Check.aroundIs("r0,0,9,8,9,9,9,9;", 1, 2);
        Check.aroundIs("r0,0,9,9,9,8,9,9;", NONE, NONE);
        Check.aroundIs("r0,0,9,9,9,8;", NONE, NONE);
        Check.aroundIs("r0,4,1,2;", NONE, NONE);
        Check.aroundIs("r0,5,0;", NONE, NONE);
        Check.aroundIs("r0,6;", NONE, NONE);
    }

    private static void roundBad() {
        for (int what : new int[] {Integer.MIN_VALUE, -1, 2, 3, Integer.MAX_VALUE}) {
            refused(12, "BAD goes before NONE, around, what " + what, x -> x.around(0, what));
            Check.due(12, "BAD where it goes round", Check.laid("r0,2,1,1;").around(0, what), BAD);
        }
    }

    /** "NUMBERS (0 to 60000)". */
    private static void numbers0To60000() {
        TellingRows x = new TellingRows();
        Check.due(13, "the least", x.number(0), 1);
        Check.due(13, "the greatest", x.number(60000), 2);
        for (int v : new int[] {Integer.MIN_VALUE, -1, 60001, 65536, Integer.MAX_VALUE}) {
            refused(13, "number " + v, y -> y.number(v));
        }
    }

    /** "NUMBERS, 40 at most", and how many there were. */
    private static void fortyNumbers() {
        TellingRows x = new TellingRows();
        Check.due(14, "none", x.noNumbers(), 0);
        for (int many = 1; many <= 40; many++) {
            Check.due(13, "number", x.number(many), many);
            Check.due(13, "count", x.count(1), many);
        }
        Check.due(13, "41", x.number(1), FULL);
        Check.due(13, "BAD goes before FULL", x.number(-1), BAD);
        Check.due(13, "BAD goes before FULL", x.number(60001), BAD);
        Check.due(14, "forty were", x.noNumbers(), 40);
        Check.due(14, "none are left", x.noNumbers(), 0);
        Check.due(14, "none are left", x.count(1), 0);
        Check.due(13, "there is room again", x.number(1), 1);
        Check.due(14, "one was", x.noNumbers(), 1);
        for (int v : new int[] {0, 1, 3, 60000}) {
            Check.refused(13, "number " + v + " of a full row", RowBoundsTest::fortyOfTheFirst, y -> y.number(v), FULL);
        }
    }

    /** The first forty numbers of the rows as at first: the 41st would be told by where they break. */
    private static void fortyOfTheFirst(TellingRows x) {
        for (int i = 0; i < 40; i++) {
            x.number(x.at(0, i));
        }
    }

    /** "at the first place (from 0) where it has another one": the first, the last, of several. */
    private static void breaksAtTheEdges() {
        Check.due(15, "no numbers", new TellingRows().breaks(0), NONE);
        for (int wrong = 0; wrong < 40; wrong++) {
            TellingRows x = Check.laid("r0,2,0;");
            for (int i = 0; i < 40; i++) {
                x.number(x.at(0, i) + (i == wrong || i == 39 ? 1 : 0));
            }
            Check.due(15, "another one at " + wrong, x.breaks(0), wrong);
        }
        TellingRows all = new TellingRows();
        fortyOfTheFirst(all);
        Check.due(15, "forty of its own", all.breaks(0), NONE);
        TellingRows least = Check.laid("r0,6,0,99;r1,0,1,1;");
        least.number(0);
        Check.due(15, "0 is a number", least.breaks(0), NONE);
        Check.due(15, "0 is another one", least.breaks(1), 0);
        least.number(60000);
        Check.due(15, "60000 is another one", least.breaks(0), 1);
    }

    /** "or ENDS": behind the last number of the row, and only where a number is told there. */
    private static void breaksWhereTheRowEnds() {
        TellingRows x = Check.laid("r0,0,1,3;r1,0,3,1;");
        Check.due(15, "no numbers", x.breaks(0), NONE);
        x.number(1);
        Check.due(15, "ahead of the end", x.breaks(0), NONE);
        x.number(3);
        Check.due(15, "as far as the row goes", x.breaks(0), NONE);
        x.number(0);
        Check.due(15, "behind the end", x.breaks(0), 2);
        x.number(4);
        Check.due(15, "of several the first", x.breaks(0), 2);
        Check.due(15, "another one goes ahead of the end", x.breaks(1), 0);
    }

    /** "MAY: REGISTERS that do not, as bits": none, each alone, all. */
    private static void mayAsBits() {
        Check.due(16, "all", new TellingRows().may(), 15);
        for (int bits = 0; bits < 16; bits++) {
            StringBuilder text = new StringBuilder();
            for (int r = 0; r < 4; r++) {
                text.append("r").append(r).append((bits >> r & 1) == 1 ? ",2,5;" : ",0,5,5;");
            }
            TellingRows x = Check.laid(text.toString());
            Check.due(16, "no numbers break none", x.may(), 15);
            x.number(5);
            Check.due(16, "both begin so", x.may(), 15);
            x.number(0);
            Check.due(16, "one goes on so", x.may(), bits);
            x.number(60000);
            Check.due(16, "none goes on so", x.may(), 0);
            x.noNumbers();
            Check.due(16, "no numbers break none", x.may(), 15);
        }
    }
}
