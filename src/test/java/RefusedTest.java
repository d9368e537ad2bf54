import java.util.function.Consumer;
import java.util.function.ToLongFunction;

/** "BAD. NO. NONE. FULL. Of several the first; nothing changes then.": in an object that holds all it can. */
public final class RefusedTest {
    private static final int BAD = TellingRows.BAD, NO = TellingRows.NO;
    private static final int FULL = TellingRows.FULL, NONE = TellingRows.NONE;
    private static final int TOO_MUCH = Integer.MAX_VALUE;

    public static void main(String[] args) {
        bad();
        no();
        none();
        full();
        badGoesFirst();
        asking();
        the512thCall();
        Check.end(1, 24);
    }

    /** A full text of 24 items, a row of each kind that ends or not, 40 numbers of one row and 40 figures. */
    private static void fill(TellingRows x) {
        Check.write(x, "r0,4,1,2;r1,0,1,3;r2,3,1,1,2,2;r3,6,0,7,3,1,2,1;r0,5,0;r1,0,5,5;" + "r2,6;".repeat(11));
        x.lay();
        x.wipe();
        Check.write(x, "r0,2,0;r1,0,1,3;r2,3,1,1,2,2;r3,6,0,7,3,1,2,1;" + "r2,0,1,1;".repeat(8) + "xy");
        for (int i = 0; i < 40; i++) {
            x.number(x.at(0, i));
            x.figure(i % 2 == 0 ? 1 : 2 + i / 2 % 2);
        }
    }

    private static void fillOddly(TellingRows x) {
        Check.write(x, "r0,4,5,20;r1,0,1,3;r2,2,1,1;r3,6;r0,9");
        for (int i = 0; i < 11; i++) {
            x.figure(7);
            x.number(1);
        }
    }

    private static void same(int promise, String call, ToLongFunction<TellingRows> made, long want) {
        Check.refused(promise, call, RefusedTest::fill, made, want);
    }

    private static void bad() {
        for (int off : new int[] {Integer.MIN_VALUE, -2, TOO_MUCH}) {
            same(2, "write " + off, x -> x.write(off, 1), BAD);
            same(6, "told " + off, x -> x.told(off, 0), BAD);
            same(6, "told what " + off, x -> x.told(0, off), BAD);
            same(7, "at " + off, x -> x.at(off, 0), BAD);
            same(7, "at place " + off, x -> x.at(0, off), BAD);
            same(8, "first " + off, x -> x.first(off, 0), BAD);
            same(8, "first of " + off, x -> x.first(0, off), BAD);
            same(9, "often " + off, x -> x.often(off, 0, 1), BAD);
            same(9, "often of n " + off, x -> x.often(0, 0, off), BAD);
            same(10, "run " + off, x -> x.run(off, 0, 0), BAD);
            same(10, "run what " + off, x -> x.run(0, 0, off), BAD);
            same(11, "most " + off, x -> x.most(off, 1, 0), BAD);
            same(11, "most n " + off, x -> x.most(0, off, 0), BAD);
            same(11, "most what " + off, x -> x.most(0, 1, off), BAD);
            same(12, "around " + off, x -> x.around(off, 0), BAD);
            same(12, "around what " + off, x -> x.around(0, off), BAD);
            same(13, "number " + off, x -> x.number(off), BAD);
            same(15, "breaks " + off, x -> x.breaks(off), BAD);
            same(17, "figure " + off, x -> x.figure(off), BAD);
            same(19, "said " + off, x -> x.said(false, off, 0), BAD);
            same(19, "counted " + off, x -> x.said(true, off, 0), BAD);
            same(22, "round " + off, x -> x.round(off), BAD);
            same(23, "tellers " + off, x -> x.tellers(off, 0), BAD);
            same(24, "count " + off, x -> x.count(off), BAD);
        }
        same(10, "run -1", x -> x.run(0, -1, 0), BAD);
        same(19, "said at -2", x -> x.said(false, 1, -2), BAD);
        same(20, "unsaid -2", x -> x.unsaid(-2), BAD);
        same(23, "tellers at -2", x -> x.tellers(4, -2), BAD);
    }

    private static void no() {
        same(5, "lay", TellingRows::lay, NO);
        same(19, "counted", x -> x.said(true, 1, 0), NO);
        same(22, "round", x -> x.round(0), NO);
        Consumer<TellingRows> odd = RefusedTest::fillOddly;
        Check.refused(5, "lay", odd, TellingRows::lay, NO);
        Check.refused(19, "said", odd, x -> x.said(false, 1, 0), NO);
        Check.refused(20, "unsaid", odd, x -> x.unsaid(0), NO);
        Check.refused(22, "round", odd, x -> x.round(1), NO);
    }

    private static void none() {
        same(6, "told", x -> x.told(1, 4), NONE);
        same(7, "at", x -> x.at(1, 3), NONE);
        same(8, "first", x -> x.first(1, 60000), NONE);
        same(10, "run", x -> x.run(1, 1999, 0), NONE);
        same(12, "around", x -> x.around(0, 1), NONE);
        same(15, "breaks", x -> x.breaks(0), NONE);
        same(19, "said", x -> x.said(false, 0, 40), NONE);
        same(20, "unsaid", x -> x.unsaid(180), NONE);
        same(23, "tellers", x -> x.tellers(6, 0), NONE);
        Check.refused(4, "fault", x -> Check.write(x, "r3,2,5;"), TellingRows::fault, NONE);
    }

    private static void full() {
        for (int n = 1; n <= 8; n++) {
            int bytes = n;
            same(2, "write " + n, x -> x.write(bytes, -1), FULL);
        }
        same(13, "number 0", x -> x.number(0), FULL);
        same(13, "number 60000", x -> x.number(60000), FULL);
        same(17, "figure 1", x -> x.figure(1), FULL);
        same(17, "figure 9", x -> x.figure(9), FULL);
    }

    /** Where more than one would be the answer: BAD ahead of NO, NO ahead of NONE, BAD ahead of NONE and FULL. */
    private static void badGoesFirst() {
        same(2, "write 0 to a full text", x -> x.write(0, -1), BAD);
        same(2, "write 9 to a full text", x -> x.write(9, -1), BAD);
        same(13, "number 60001 to full numbers", x -> x.number(60001), BAD);
        same(13, "number -1 to full numbers", x -> x.number(-1), BAD);
        same(17, "figure 0 to full figures", x -> x.figure(0), BAD);
        same(17, "figure 10 to full figures", x -> x.figure(10), BAD);
        same(6, "told 8 of few beginnings", x -> x.told(1, 8), BAD);
        same(7, "at 2000 of a row that ended", x -> x.at(1, 2000), BAD);
        same(8, "first 60001 of a row that ended", x -> x.first(1, 60001), BAD);
        same(10, "run of no such k, what 3", x -> x.run(1, 1999, 3), BAD);
        same(12, "around what 2 of a row that ended", x -> x.around(1, 2), BAD);
        same(19, "counted 13 times", x -> x.said(true, 13, 5000), BAD);
        same(19, "counted at -2", x -> x.said(true, 12, -2), BAD);
        same(22, "round what 2", x -> x.round(2), BAD);
        same(19, "NO goes before NONE", x -> x.said(true, 1, 5000), NO);
        same(23, "tellers(11, 9)", x -> x.tellers(11, 9), BAD);
        Check.refused(20, "unsaid -2 of odd figures", RefusedTest::fillOddly, x -> x.unsaid(-2), BAD);
        Check.refused(20, "unsaid far behind of odd figures", RefusedTest::fillOddly, x -> x.unsaid(5000), NO);
    }

    /** A call that asks, and is answered, changes nothing either. */
    private static void asking() {
        same(4, "fault", TellingRows::fault, 118);
        same(6, "told", x -> x.told(0, 1), 1);
        same(7, "at", x -> x.at(2, 1999), 11);
        same(8, "first", x -> x.first(0, 1), 1);
        same(9, "often", x -> x.often(0, 1, 2000), 1000);
        same(10, "run", x -> x.run(0, 0, 1), 1);
        for (int what = 0; what < 4; what++) {
            int asked = what;
            same(11, "most what " + what, x -> x.most(1, 2000, asked), new int[] {5, 0, 2, 1}[what]);
        }
        same(16, "may", TellingRows::may, 1);
        same(15, "breaks", x -> x.breaks(1), 0);
        same(19, "said", x -> x.said(false, 12, -1) > 1000 ? 1 : 0, 1);
        same(20, "unsaid", x -> x.unsaid(-1), 20);
        same(21, "backs", TellingRows::backs, 1);
        same(23, "tellers", x -> x.tellers(10, 0), 6210001000L);
        same(24, "count", x -> x.count(0), 120);
        Check.refused(22, "round", x -> x.figure(1), x -> x.round(0), 12);
        Check.refused(12, "around", x -> x.figure(1), x -> x.around(0, 0), NONE);
    }

    /** "An object is used for at most 512 calls": the last of them is answered as the first. */
    private static void the512thCall() {
        TellingRows x = new TellingRows();
        Check.due(2, "call 1", x.write(8, Check.packed("r0,3,19;")), 8);
        for (int call = 2; call <= 509; call++) {
            Check.due(5, "call " + call, call % 2 == 0 ? x.lay() : x.wipe(), call == 2 ? NO : call == 3 ? 8 : 0);
        }
        Check.due(2, "call 510", x.write(7, Check.packed("r3,2,9;")), 7);
        Check.due(5, "call 511", x.lay(), 1);
        Check.due(7, "call 512", x.at(3, 1), 0);
        Check.due(3, "wipe of none", new TellingRows().wipe(), 0);
        Check.due(14, "no numbers", new TellingRows().noNumbers(), 0);
        Check.due(18, "no figures", new TellingRows().noFigures(), 0);
        Check.due(1, "new", new TellingRows().may(), 15);
    }
}
