/** Promises 13 to 16: numbers told, and which rows they break. */
public final class NumbersTest {
    private static final int BAD = TellingRows.BAD, FULL = TellingRows.FULL, NONE = TellingRows.NONE;

    public static void main(String[] args) {
        number();
        noNumbers();
        breaks();
        may();
        Check.end(13, 16);
    }

    private static void number() {
        TellingRows x = new TellingRows();
        Check.due(13, "number(-1)", x.number(-1), BAD);
        Check.due(13, "number(60001)", x.number(60001), BAD);
        Check.due(13, "number(0)", x.number(0), 1);
        Check.due(13, "number(60000)", x.number(60000), 2);
        for (int many = 3; many <= 40; many++) {
            Check.due(13, "number(7)", x.number(7), many);
        }
        Check.due(13, "number too many", x.number(7), FULL);
        Check.due(13, "BAD goes before FULL", x.number(60001), BAD);
        Check.due(13, "still as many", x.count(1), 40);
    }

    private static void noNumbers() {
        TellingRows x = new TellingRows();
        Check.due(14, "noNumbers of none", x.noNumbers(), 0);
        x.number(2);
        x.number(3);
        Check.due(14, "one row may not", x.may(), 0);
        Check.due(14, "noNumbers", x.noNumbers(), 2);
        Check.due(14, "none are left", x.count(1), 0);
        Check.due(14, "all rows may", x.may(), 15);
        Check.due(14, "number anew", x.number(1), 1);
        Check.due(14, "the new one counts", x.may(), 15);
    }

    private static void breaks() {
        TellingRows x = Check.laid("r1,4,1,2;r2,0,1,3;");
        Check.due(15, "none break", x.breaks(1), NONE);
        x.number(1);
        Check.due(15, "1 breaks none", x.breaks(0), NONE);
        Check.due(15, "1 breaks none", x.breaks(1), NONE);
        Check.due(15, "1 breaks none", x.breaks(2), NONE);
        x.number(3);
        Check.due(15, "1 3 breaks", x.breaks(0), 1);
        Check.due(15, "1 3 breaks", x.breaks(1), 1);
        Check.due(15, "as far as the row goes", x.breaks(2), NONE);
        x.number(5);
        Check.due(15, "the first place", x.breaks(1), 1);
        Check.due(15, "the row ends", x.breaks(2), 2);
        x.number(0);
        Check.due(15, "the row has ended", x.breaks(2), 2);
        Check.due(15, "breaks(4)", x.breaks(4), BAD);
        Check.due(15, "breaks(-1)", x.breaks(-1), BAD);
        x.noNumbers();
        x.number(9);
        Check.due(15, "at place 0", x.breaks(0), 0);
        Check.due(15, "BAD with numbers", x.breaks(5), BAD);
        TellingRows back = Check.laid("r3,2,0;");
        for (int i = 0; i < 39; i++) {
            back.number(back.at(3, i));
        }
        Check.due(15, "its own numbers", back.breaks(3), NONE);
        back.number(back.at(3, 39) + 1);
        Check.due(15, "the last number", back.breaks(3), 39);
    }

    private static void may() {
        TellingRows x = Check.laid("r0,5,1;r1,3,1;r2,0,1,1;r3,1,1,1;");
        Check.due(16, "all may", x.may(), 15);
        x.number(1);
        x.number(1);
        x.number(2);
        Check.due(16, "1 1 2", x.may(), 15);
        x.number(1);
        Check.due(16, "1 1 2 1", x.may(), 3);
        x.number(1);
        Check.due(16, "1 1 2 1 1", x.may(), 2);
        x.noNumbers();
        x.number(1);
        x.number(1);
        x.number(2);
        x.number(3);
        Check.due(16, "1 1 2 3", x.may(), 4);
        x.noNumbers();
        Check.write(x, "r0,0,1,3;r3,2,7;");
        x.lay();
        x.number(7);
        Check.due(16, "laid anew", x.may(), 8);
        x.noNumbers();
        x.number(1);
        x.number(3);
        Check.due(16, "as far as the row goes", x.may(), 1);
        x.number(3);
        Check.due(16, "the row ends", x.may(), 0);
    }
}
