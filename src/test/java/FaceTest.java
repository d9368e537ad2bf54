import java.lang.reflect.Constructor;
import java.lang.reflect.Field;
import java.lang.reflect.Member;
import java.lang.reflect.Method;
import java.lang.reflect.Modifier;
import java.util.Arrays;
import java.util.TreeSet;

/** The public face and nothing beside it; and no argument in any state that makes the machine throw. */
public final class FaceTest {
    private static final String[] FACE = {
        "public int write(int,long)", "public int wipe()", "public int fault()", "public int lay()",
        "public int told(int,int)", "public int at(int,int)", "public int first(int,int)",
        "public int often(int,int,int)", "public int run(int,int,int)", "public int most(int,int,int)",
        "public int around(int,int)", "public int number(int)", "public int noNumbers()", "public int breaks(int)",
        "public int may()", "public int figure(int)", "public int noFigures()",
        "public int said(boolean,int,int)", "public int unsaid(int)", "public int backs()", "public int round(int)",
        "public long tellers(int,int)", "public int count(int)",
    };
    private static final int[] EXTREMES = {Integer.MIN_VALUE, Integer.MIN_VALUE + 1, -60001, -5, -2, -1, 0, 1, 2, 3, 4,
        5, 6, 7, 8, 9, 10, 11, 12, 13, 40, 120, 599, 600, 1999, 2000, 2001, 5000, 60000, 60001, Integer.MAX_VALUE - 1,
        Integer.MAX_VALUE};
    private static final String[] TEXTS = {"", "r0,0,1,3;r1,1,9,9;r2,4,20,3;", "r0,2,99;r1,3,9;r2,4,19,20;r3,6;",
        "r0,0,9,8,7,6,5,4;r1,1,1,2,3,4,5,6;r2,5,9,9;r3,6,99,0,99,0,99,0;", "r", "r0", "r0,", "r0,6", "r99,99,99;"};

    public static void main(String[] args) throws Exception {
        Check.due(1, "BAD", TellingRows.BAD, -1);
        Check.due(1, "NO", TellingRows.NO, -2);
        Check.due(1, "FULL", TellingRows.FULL, -3);
        Check.due(1, "NONE", TellingRows.NONE, -4);
        methods();
        members();
        for (String text : TEXTS) {
            extremes(text);
        }
        Check.end(1, 1);
    }

    private static void methods() {
        TreeSet<String> want = new TreeSet<>(Arrays.asList(FACE));
        TreeSet<String> names = new TreeSet<>();
        for (String line : FACE) {
            names.add(line.replaceAll("\\(.*", "").replaceAll(".* ", ""));
        }
        TreeSet<String> got = new TreeSet<>();
        for (Method m : TellingRows.class.getDeclaredMethods()) {
            if (Modifier.isPrivate(m.getModifiers())) {
                Check.holds("no private method is named as a public one: " + m, !names.contains(m.getName()));
            } else if (!m.isSynthetic()) {
                got.add(m.toString().replace("TellingRows.", ""));
            }
        }
        Check.holds("the methods are " + want + ", found " + got, want.equals(got));
        for (Class<?> inside : TellingRows.class.getDeclaredClasses()) {
            for (Method m : inside.getDeclaredMethods()) {
                Check.holds("no method inside is named as a public one: " + m, !names.contains(m.getName()));
            }
        }
    }

    private static void members() {
        Check.holds("the class is public and final",
            Modifier.toString(TellingRows.class.getModifiers()).equals("public final"));
        Constructor<?>[] made = TellingRows.class.getDeclaredConstructors();
        Check.holds("one public constructor", made.length == 1 && Modifier.isPublic(made[0].getModifiers())
            && made[0].getParameterCount() == 0);
        TreeSet<String> constants = new TreeSet<>();
        for (Field f : TellingRows.class.getDeclaredFields()) {
            if (!Modifier.isPrivate(f.getModifiers())) {
                constants.add(f.getName());
                Check.holds(f + " is public, static, final and int",
                    f.toString().startsWith("public static final int "));
            }
            Check.holds(f + " is final if static", !isStatic(f) || Modifier.isFinal(f.getModifiers()));
        }
        Check.holds("the constants", constants.toString().equals("[BAD, FULL, NO, NONE]"));
        Class<?>[] inside = TellingRows.class.getDeclaredClasses();
        Check.holds("some twelve classes at most", inside.length + 1 <= 12);
        for (Class<?> c : inside) {
            Check.holds(c + " is static and not public", Modifier.isStatic(c.getModifiers())
                && !Modifier.isPublic(c.getModifiers()) && !Modifier.isProtected(c.getModifiers()));
        }
    }

    private static boolean isStatic(Member member) {
        return Modifier.isStatic(member.getModifiers());
    }

    /** Every call with the extremes for every argument: whatever the machine throws ends the test. */
    private static void extremes(String text) throws Exception {
        for (Method m : TellingRows.class.getDeclaredMethods()) {
            if (!Modifier.isPublic(m.getModifiers())) {
                continue;
            }
            int kinds = m.getParameterCount();
            int all = (int) Math.pow(EXTREMES.length, kinds);
            TellingRows x = null;
            for (int i = 0; i < all; i++) {
                if (i % 500 == 0) {
                    x = new TellingRows();
                    Check.write(x, text);
                    x.lay();
                    x.number(1);
                    for (int d = 1; d <= 9; d++) {
                        x.figure(d);
                    }
                }
                Object[] args = new Object[kinds];
                int rest = i;
                for (int a = 0; a < kinds; a++) {
                    int v = EXTREMES[rest % EXTREMES.length];
                    rest /= EXTREMES.length;
                    Class<?> type = m.getParameterTypes()[a];
                    args[a] = type == boolean.class ? (Object) (v % 2 == 0) : type == long.class ? (Object) (long) v
                        : (Object) v;
                }
                Object got = m.invoke(x, args);
                Check.holds(m + Arrays.toString(args) + " answers -4 or more", ((Number) got).longValue() >= -4);
            }
        }
    }
}
