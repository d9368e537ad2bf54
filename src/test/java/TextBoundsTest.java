/** Promises 1 to 6: each sentence of the document that names a bound of the text and its items. */
public final class TextBoundsTest {
    private static final int BAD = TellingRows.BAD, NO = TellingRows.NO;
    private static final int FULL = TellingRows.FULL, NONE = TellingRows.NONE;

    private static final int SORTS = 7;
    private static final int[] FEWEST = {2, 2, 1, 1, 2, 1, 0};
    private static final int[] MOST = {6, 6, 6, 6, 2, 6, 6};
    private static final int[] LOWEST = {1, 1, 0, 1, 1, 0, 0};
    private static final int[] HIGHEST = {9, 9, 99, 9, 20, 9, 99};

    public static void main(String[] args) {
        atFirstEachReach();
        bytesOneToEight();
        bytesHighestFirst();
        textOf120Bytes();
        wipedFullAndEmpty();
        registers0To3();
        sorts0To6();
        oneOrTwoFigures();
        howManyBeginnings();
        howGreatBeginnings();
        sumsOneTo20();
        everyByteOfAnItem();
        faultAtTheEdges();
        layAtTheEdges();
        layKeepsOthers();
        toldAtTheEdges();
        Check.end(1, 6);
    }

    private static TellingRows written(String text) {
        TellingRows x = new TellingRows();
        Check.write(x, text);
        return x;
    }

    /** A text that holds one item, which is so or not. */
    private static void item(String item, boolean so) {
        Check.due(4, "fault of " + item, written(item).fault(), so ? NONE : 0);
        Check.due(5, "lay of " + item, written(item).lay(), so ? 1 : NO);
    }

    /** "at first each REACH 1, 1": of each register, and no text, no numbers, no figures. */
    private static void atFirstEachReach() {
        int[] reach = {1, 1, 2, 3, 3, 4, 5, 5, 6, 6, 6, 8};
        int[] told = {0, 2, 1, 1, NONE, NONE, NONE, NONE};
        TellingRows x = new TellingRows();
        for (int r = 0; r < 4; r++) {
            for (int what = 0; what < told.length; what++) {
                Check.due(1, "new told(" + r + ", " + what + ")", x.told(r, what), told[what]);
            }
            for (int i = 0; i < reach.length; i++) {
                Check.due(1, "new at(" + r + ", " + i + ")", x.at(r, i), reach[i]);
            }
            Check.due(1, "new at(" + r + ", 1999)", x.at(r, 1999), 1005);
        }
        Check.due(1, "no text", x.wipe(), 0);
        Check.due(1, "no numbers", x.noNumbers(), 0);
        Check.due(1, "no figures", x.noFigures(), 0);
    }

    /** "n bytes (1 to 8)". */
    private static void bytesOneToEight() {
        for (int n = 1; n <= 8; n++) {
            Check.due(2, "write " + n, new TellingRows().write(n, -1), n);
        }
        for (int n : new int[] {Integer.MIN_VALUE, -8, -1, 0, 9, 16, 64, Integer.MAX_VALUE}) {
            Check.refused(2, "write " + n, x -> x.write(3, 7), x -> x.write(n, -1), BAD);
        }
    }

    /** "n bytes of v, the highest first": the least v and the greatest, and what stands above n bytes. */
    private static void bytesHighestFirst() {
        String digits = "r1,2,34;";
        for (int n = 1; n <= 8; n++) {
            TellingRows x = new TellingRows();
            Check.due(2, "the first bytes", Check.write(x, digits.substring(0, 8 - n)), n == 8 ? 0 : 8 - n);
            long rest = Check.packed(digits.substring(8 - n));
            long above = n == 8 ? 0 : Long.MIN_VALUE | 0x7fL << 8 * n;
            Check.due(2, "the last " + n, x.write(n, above | rest), 8);
            Check.due(2, "they are so", x.lay(), 1);
            Check.due(2, "they are in order", x.told(1, 2), 34);
        }
        for (long v : new long[] {0, -1, Long.MIN_VALUE, Long.MAX_VALUE}) {
            TellingRows x = new TellingRows();
            Check.due(2, "any v", x.write(8, v), 8);
            Check.due(2, "no item", x.fault(), 0);
        }
    }

    /** "A TEXT is bytes (120 at most)": n bytes fit where 120 - n are there, and not where one more is. */
    private static void textOf120Bytes() {
        for (int n = 1; n <= 8; n++) {
            TellingRows x = ofLength(120 - n);
            Check.due(2, "write " + n + " to 120", x.write(n, 0), 120);
            Check.due(2, "all are there", x.count(0), 120);
            int bytes = n;
            Check.refused(2, "write " + n + " to 121", y -> fill(y, 121 - bytes), y -> y.write(bytes, 0), FULL);
            Check.refused(2, "write " + n + " to more", y -> fill(y, 120), y -> y.write(bytes, 0), FULL);
            Check.due(2, "less than that fits", n == 1 ? 120 : ofLength(121 - n).write(n - 1, 0), 120);
        }
    }

    private static TellingRows ofLength(int length) {
        TellingRows x = new TellingRows();
        fill(x, length);
        return x;
    }

    private static void fill(TellingRows x, int length) {
        Check.write(x, "r1,2,7;r3,6,42;" + " ".repeat(length - 15));
    }

    /** "how long it was": of the empty text and of the full one. */
    private static void wipedFullAndEmpty() {
        TellingRows x = ofLength(120);
        Check.due(3, "wipe of the full text", x.wipe(), 120);
        Check.due(3, "it is empty", x.count(0), 0);
        Check.due(3, "wipe of the empty text", x.wipe(), 0);
        Check.due(3, "an empty text has no fault", x.fault(), NONE);
        Check.due(3, "bytes fit again", x.write(8, 0), 8);
        Check.due(3, "wipe of 8", x.wipe(), 8);
        Check.due(3, "wipe of one byte", written("r").wipe(), 1);
    }

    /** "REGISTERS 0 to 3", told in a text with one figure or two. */
    private static void registers0To3() {
        for (int r = 0; r < 100; r++) {
            item("r" + r + ",6;", r < 4);
        }
        for (int r = 0; r < 10; r++) {
            item("r0" + r + ",6;", r < 4);
        }
        for (int r = 0; r < 4; r++) {
            TellingRows x = written("r" + r + ",2,8;");
            Check.due(5, "lay", x.lay(), 1);
            for (int other = 0; other < 4; other++) {
                Check.due(5, "register " + other, x.told(other, 0), other == r ? 2 : 0);
            }
        }
    }

    /** "SORT (0 to 6)", told with one figure or two. */
    private static void sorts0To6() {
        for (int sort = 0; sort < 100; sort++) {
            item("r0," + sort + ",1,2;", sort < SORTS);
        }
        for (int sort = 0; sort < 10; sort++) {
            item("r0,0" + sort + ",1,2;", sort < SORTS);
        }
        for (int sort = 0; sort < SORTS; sort++) {
            Check.due(6, "told sort", Check.laid("r0," + sort + ",1,2;").told(0, 0), sort);
        }
    }

    /** "all numbers (one or two figures)". */
    private static void oneOrTwoFigures() {
        String[] figures = {"", "0", "00", "000", "0000"};
        for (int many = 0; many < figures.length; many++) {
            boolean so = many == 1 || many == 2;
            item("r" + figures[many] + ",2,5;", so);
            item("r0," + figures[many] + ",5,5;", so);
            item("r0," + figures[many] + "2,5;", many < 2);
            item("r0,2," + figures[many] + ";", so);
            item("r0,2,5," + figures[many] + ";", so);
            item("r0,2," + figures[many] + ",5;", so);
            item("r0,2," + figures[many] + "9;", many < 2);
        }
        TellingRows x = Check.laid("r01,02,09;");
        Check.due(6, "a 0 ahead tells nothing", x.told(1, 0), 2);
        Check.due(6, "a 0 ahead tells nothing", x.told(1, 2), 9);
    }

    /** "two to six numbers", "one to six", "u, v", "up to six". */
    private static void howManyBeginnings() {
        for (int sort = 0; sort < SORTS; sort++) {
            StringBuilder text = new StringBuilder("r0,").append(sort);
            for (int many = 0; many <= 9; many++) {
                boolean so = many >= FEWEST[sort] && many <= MOST[sort];
                item(text + ";", so);
                if (so) {
                    TellingRows x = Check.laid(text + ";");
                    Check.due(6, "how many", x.told(0, 1), many);
                    Check.due(6, "the last one", x.told(0, 1 + many), many == 0 ? 0 : many);
                    Check.due(6, "none behind it", many == 6 ? NONE : x.told(0, 2 + many), NONE);
                }
                text.append(",").append(many + 1);
            }
        }
    }

    /** "(1 to 9)", "(0 to 99)", "(0 to 9)": at each place that a beginning can have. */
    private static void howGreatBeginnings() {
        for (int sort = 0; sort < SORTS; sort++) {
            for (int place = 0; sort != 4 && place < 6; place++) {
                for (int value : new int[] {0, 1, 2, 8, 9, 10, 11, 20, 21, 98, 99, 100, 101}) {
                    boolean so = value >= LOWEST[sort] && value <= HIGHEST[sort];
                    StringBuilder text = new StringBuilder("r0,").append(sort);
                    for (int i = 0; i < 6; i++) {
                        text.append(",").append(i == place ? value : 1 + i);
                    }
                    item(text + ";", so);
                    if (so) {
                        Check.due(6, "told of " + text, Check.laid(text + ";").told(0, 2 + place), value);
                        Check.due(7, "at of " + text, Check.laid(text + ";").at(0, place), value);
                    }
                }
            }
        }
    }

    /** "SUMS u, v (1 to 20, v above u)". */
    private static void sumsOneTo20() {
        for (int u = 0; u <= 22; u++) {
            for (int v = 0; v <= 22; v++) {
                item("r0,4," + u + "," + v + ";", u >= 1 && v > u && v <= 20);
            }
        }
        item("r0,4,1,99;", false);
        item("r0,4,19,20;", true);
        item("r0,4,1,2,3;", false);
        item("r0,4,1;", false);
    }

    /** "r, then REGISTER, SORT, BEGINNINGS, parted by , and a ; behind the last": each byte at each place. */
    private static void everyByteOfAnItem() {
        String item = "r0,2,1;";
        String[] so = {"r", "0123", ",", "2356", ",", "0123456789", ";"};
        for (int place = 0; place < item.length(); place++) {
            for (int b = 0; b < 256; b++) {
                boolean good = so[place].indexOf(b) >= 0 && !(place == 3 && "0".indexOf(b) >= 0);
                TellingRows x = new TellingRows();
                x.write(7, Check.packed(item));
                Check.write(x, item.substring(0, place));
                x.write(1, b);
                Check.write(x, item.substring(place + 1));
                Check.due(4, "byte " + b + " at " + place, x.fault(), good ? NONE : 7);
                Check.due(5, "byte " + b + " at " + place, x.lay(), good ? 2 : NO);
            }
        }
    }

    /** "the place of the first byte of the first ITEM that is not so": the first byte, the last, of several. */
    private static void faultAtTheEdges() {
        Check.due(4, "of an empty text", new TellingRows().fault(), NONE);
        Check.due(4, "of one byte", written("r").fault(), 0);
        Check.due(4, "of one other byte", written(";").fault(), 0);
        String full = "r0,6;".repeat(24);
        Check.due(4, "of a full text that is so", written(full).fault(), NONE);
        Check.due(4, "its last item is not", written(full.substring(0, 119)).fault(), 115);
        Check.due(4, "its last item is not", written(full.substring(0, 119) + ",").fault(), 115);
        Check.due(4, "its first item is not", written("x" + full.substring(1)).fault(), 0);
        String up = "r0,6;".repeat(22) + "r0,0,1,1;";
        Check.due(4, "the last byte", written(up + "r").fault(), 119);
        Check.due(4, "the last byte, not r", written(up + ";").fault(), 119);
        Check.due(4, "nothing behind", written(up).fault(), NONE);
        Check.due(4, "of several the first", written("r0,6;r0,9;r0,6;r0,8;").fault(), 5);
        Check.due(4, "what is not so runs on", written("r0,6;r0,6" + "r0,6;").fault(), 5);
        for (int end = 1; end < 24; end++) {
            String cut = "r3,0,1,2,3,4,5,6;r2,6,99;".substring(0, end);
            Check.due(4, "fault of " + cut, written(cut).fault(), end < 17 ? 0 : end == 17 ? NONE : 17);
        }
        String longest = "r03,06,00,01,02,97,98,99;";
        Check.due(4, "the longest items", written(longest.repeat(4)).fault(), NONE);
        Check.due(4, "the longest and one more", written("r03,06,00,01,02,97,98,99,00;").fault(), 0);
    }

    /** "LAID: how many ITEMS": none, the most; "NO: a FAULT", and then not even the items ahead of it are. */
    private static void layAtTheEdges() {
        Check.due(5, "no items", new TellingRows().lay(), 0);
        Check.due(5, "one item", written("r0,6;").lay(), 1);
        Check.due(5, "24 items", written("r0,6;".repeat(24)).lay(), 24);
        Check.due(5, "24 items and no more", written("r0,6;".repeat(23) + "r0,06").lay(), NO);
        Check.due(5, "laid again", relaid("r1,2,3;"), 1);
        for (String fault : new String[] {"r", "r4,6;", "r1,7;", "r1,4,2,2;", "r1,0,1;", "\0", "r1,6,;"}) {
            Check.refused(5, "lay of a fault behind " + fault, x -> Check.write(x, "r0,2,5;r1,3,4;" + fault),
                TellingRows::lay, NO);
            Check.refused(5, "lay of a fault first " + fault, x -> Check.write(x, fault + "r0,2,5;"),
                TellingRows::lay, NO);
        }
    }

    private static int relaid(String text) {
        TellingRows x = written(text);
        x.lay();
        x.at(1, 5);
        return x.lay();
    }

    /** "its REGISTERS become these, the last ITEM of one holds; others stay". */
    private static void layKeepsOthers() {
        TellingRows x = written("r2,2,1;r2,3,5;r0,5,0;r2,6,7,8;");
        Check.due(5, "lay", x.lay(), 4);
        int[] sorts = {5, 0, 6, 0};
        int[] many = {1, 2, 2, 2};
        int[] firsts = {0, 1, 7, 1};
        for (int r = 0; r < 4; r++) {
            Check.due(5, "sort of " + r, x.told(r, 0), sorts[r]);
            Check.due(5, "beginnings of " + r, x.told(r, 1), many[r]);
            Check.due(5, "first of " + r, x.at(r, 0), firsts[r]);
        }
        x.wipe();
        Check.due(5, "an empty text lays none", x.lay(), 0);
        Check.due(5, "all stay", x.told(2, 0), 6);
        Check.write(x, "r2,0,1,1;");
        Check.due(5, "as at first", x.lay(), 1);
        Check.due(5, "as at first", x.at(2, 1999), 1005);
        Check.due(5, "others stay", x.at(0, 1), 1);
    }

    /** "SORT (what = 0), how many BEGINNINGS (1), BEGINNING what - 2 (2 to 7; NONE). BAD". */
    private static void toldAtTheEdges() {
        TellingRows x = Check.laid("r0,0,9,8,7,6,5,4;r3,6;");
        Check.due(6, "the sixth", x.told(0, 7), 4);
        Check.due(6, "of none", x.told(3, 1), 0);
        for (int what = 2; what < 8; what++) {
            Check.due(6, "none of none", x.told(3, what), NONE);
        }
        for (int what : new int[] {Integer.MIN_VALUE, -2, -1, 8, 9, Integer.MAX_VALUE}) {
            Check.due(6, "told(0, " + what + ")", x.told(0, what), BAD);
            Check.due(6, "BAD goes before NONE", x.told(3, what), BAD);
        }
        for (int r : new int[] {Integer.MIN_VALUE, -1, 4, 5, Integer.MAX_VALUE}) {
            for (int what = -1; what < 9; what++) {
                Check.due(6, "told(" + r + ", " + what + ")", x.told(r, what), BAD);
            }
        }
    }
}
