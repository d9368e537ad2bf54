import java.util.ArrayList;
import java.util.HashMap;
import java.util.HashSet;
import java.util.List;
import java.util.Map;
import java.util.TreeMap;
import java.util.TreeSet;
import java.util.regex.Matcher;
import java.util.regex.Pattern;

/** The same calls in the plainest and slowest form, word by word from the document, for ModelTest. */
final class Model {
    private static final int BAD = -1, NO = -2, FULL = -3, NONE = -4;
    private static final Pattern ITEM = Pattern.compile("r(\\d\\d?),(\\d\\d?)((?:,\\d\\d?)*);");
    private static final int[][] SORTS = {
        {2, 6, 1, 9}, {2, 6, 1, 9}, {1, 6, 0, 99}, {1, 6, 1, 9}, {2, 2, 1, 20}, {1, 6, 0, 9}, {0, 6, 0, 99}};
    private static final Map<List<Integer>, List<Integer>> MADE = new HashMap<>();
    private static final Map<Integer, List<Long>> TELLERS = new HashMap<>();

    private final StringBuilder text = new StringBuilder();
    private final List<List<Integer>> registers = new ArrayList<>();
    private final List<Integer> numbers = new ArrayList<>();
    private final List<Integer> figures = new ArrayList<>();

    Model() {
        for (int r = 0; r < 4; r++) {
            registers.add(List.of(0, 1, 1));
        }
    }

    // ---- rows

    int write(int n, long v) {
        if (n < 1 || n > 8) return BAD;
        if (text.length() + n > 120) return FULL;
        byte[] all = java.nio.ByteBuffer.allocate(8).putLong(v).array();
        for (int i = 8 - n; i < 8; i++) text.append((char) (all[i] & 255));
        return text.length();
    }

    int wipe() {
        int were = text.length();
        text.setLength(0);
        return were;
    }

    int fault() {
        int place = items(new ArrayList<>());
        return place == text.length() ? NONE : place;
    }

    int lay() {
        List<List<Integer>> items = new ArrayList<>();
        if (items(items) != text.length()) return NO;
        for (List<Integer> item : items) registers.set(item.get(0), item.subList(1, item.size()));
        return items.size();
    }

    /** The place behind the last item that is so, ahead of any other. */
    private int items(List<List<Integer>> items) {
        Matcher m = ITEM.matcher(text);
        int place = 0;
        while (m.region(place, text.length()).lookingAt()) {
            List<Integer> item = new ArrayList<>(List.of(Integer.parseInt(m.group(1)), Integer.parseInt(m.group(2))));
            for (String part : m.group(3).split(",")) {
                if (!part.isEmpty()) item.add(Integer.parseInt(part));
            }
            if (!isSo(item)) return place;
            items.add(item);
            place = m.end();
        }
        return place;
    }

    private static boolean isSo(List<Integer> item) {
        if (item.get(0) > 3 || item.get(1) > 6) return false;
        int[] sort = SORTS[item.get(1)];
        List<Integer> beginnings = item.subList(2, item.size());
        if (beginnings.size() < sort[0] || beginnings.size() > sort[1]) return false;
        for (int b : beginnings) {
            if (b < sort[2] || b > sort[3]) return false;
        }
        return item.get(1) != 4 || beginnings.get(0) < beginnings.get(1);
    }

    int told(int r, int what) {
        if (noRegister(r) || what < 0 || what > 7) return BAD;
        List<Integer> register = registers.get(r);
        if (what == 0) return register.get(0);
        if (what == 1) return register.size() - 1;
        return what - 1 < register.size() ? register.get(what - 1) : NONE;
    }

    private static boolean noRegister(int r) {
        return r < 0 || r > 3;
    }

    private List<Integer> row(int r) {
        return MADE.computeIfAbsent(new ArrayList<>(registers.get(r)), Model::make);
    }

    private static List<Integer> make(List<Integer> told) {
        List<Integer> row = new ArrayList<>(told.subList(1, told.size()));
        while (row.size() < 2000) {
            int next = next(told.get(0), row);
            if (next < 0 || next > 60000) break;
            row.add(next);
        }
        return row;
    }

    private static int next(int sort, List<Integer> row) {
        int n = row.size();
        switch (sort) {
            case 0: {
                int one = n - row.get(n - 1), two = n - row.get(n - 2);
                return one < 0 || two < 0 ? -1 : row.get(one) + row.get(two);
            }
            case 1: {
                int x = row.get(n - 1);
                return x > n ? -1 : row.get(x - 1) + row.get(n - x);
            }
            case 2: {
                int before = row.subList(0, n - 1).lastIndexOf(row.get(n - 1));
                return before < 0 ? 0 : n - 1 - before;
            }
            case 3:
                return blocks(row);
            case 4:
                return sum(row);
            case 5:
                return (int) row.stream().filter(v -> v.equals(row.get(n - 1))).count();
            default: {
                for (int v = 0; ; v++) {
                    if (lies(row, v)) return v;
                }
            }
        }
    }

    private static int blocks(List<Integer> row) {
        int most = 1, n = row.size();
        for (int size = 1; 2 * size <= n; size++) {
            int k = 1;
            while ((k + 1) * size <= n && like(row, n - size, n - (k + 1) * size, size)) k++;
            most = Math.max(most, k);
        }
        return most;
    }

    private static boolean like(List<Integer> row, int a, int b, int size) {
        for (int i = size - 1; i >= 0; i--) {
            if (!row.get(a + i).equals(row.get(b + i))) return false;
        }
        return true;
    }

    private static int sum(List<Integer> row) {
        for (int v = row.get(row.size() - 1) + 1; v <= 60000; v++) {
            int ways = 0;
            for (int low = 0, high = row.size() - 1; low < high; ) {
                int sum = row.get(low) + row.get(high);
                if (sum == v) ways++;
                if (sum <= v) low++; else high--;
            }
            if (ways == 1) return v;
        }
        return -1;
    }

    private static boolean lies(List<Integer> row, int v) {
        int n = row.size();
        for (int d = 1; 2 * d <= n; d++) {
            if (v - row.get(n - d) == row.get(n - d) - row.get(n - 2 * d)) return false;
        }
        return true;
    }

    int at(int r, int i) {
        if (noRegister(r) || i < 0 || i > 1999) return BAD;
        return i < row(r).size() ? row(r).get(i) : NONE;
    }

    int first(int r, int v) {
        if (noRegister(r) || v < 0 || v > 60000) return BAD;
        int place = row(r).indexOf(v);
        return place < 0 ? NONE : place;
    }

    int often(int r, int v, int n) {
        if (noRegister(r) || v < 0 || v > 60000 || n < 0 || n > 2000) return BAD;
        return java.util.Collections.frequency(front(r, n), v);
    }

    private List<Integer> front(int r, int n) {
        return row(r).subList(0, Math.min(n, row(r).size()));
    }

    /** For each run its number, how long it is and its first place. */
    private static List<int[]> runs(List<Integer> row) {
        List<int[]> runs = new ArrayList<>();
        for (int i = 0; i < row.size(); i++) {
            if (i > 0 && row.get(i).equals(row.get(i - 1))) runs.get(runs.size() - 1)[1]++;
            else runs.add(new int[] {row.get(i), 1, i});
        }
        return runs;
    }

    int run(int r, int k, int what) {
        if (noRegister(r) || k < 0 || what < 0 || what > 2) return BAD;
        List<int[]> runs = runs(row(r));
        return k < runs.size() ? runs.get(k)[what] : NONE;
    }

    int most(int r, int n, int what) {
        if (noRegister(r) || n < 1 || n > 2000 || what < 0 || what > 3) return BAD;
        List<Integer> front = front(r, n);
        int greatest = new TreeSet<>(front).last();
        int longest = 0;
        for (int[] run : runs(front)) longest = Math.max(longest, run[1]);
        return new int[] {greatest, front.indexOf(greatest), longest, new HashSet<>(front).size()}[what];
    }

    int around(int r, int what) {
        if (noRegister(r) || what < 0 || what > 1) return BAD;
        List<Integer> row = row(r);
        for (int period = 1; period <= 600; period++) {
            for (int tail = 0; row.size() - tail >= 3 * period; tail++) {
                if (goes(row, period, tail)) return what == 0 ? period : tail;
            }
        }
        return NONE;
    }

    private static boolean goes(List<Integer> row, int period, int tail) {
        for (int i = row.size() - 1 - period; i >= tail; i--) {
            if (!row.get(i).equals(row.get(i + period))) return false;
        }
        return true;
    }

    // ---- numbers

    int number(int v) {
        if (v < 0 || v > 60000) return BAD;
        if (numbers.size() == 40) return FULL;
        numbers.add(v);
        return numbers.size();
    }

    int noNumbers() {
        int were = numbers.size();
        numbers.clear();
        return were;
    }

    int breaks(int r) {
        if (noRegister(r)) return BAD;
        for (int i = 0; i < numbers.size(); i++) {
            if (i >= row(r).size() || !row(r).get(i).equals(numbers.get(i))) return i;
        }
        return NONE;
    }

    int may() {
        int bits = 0;
        for (int r = 0; r < 4; r++) bits += breaks(r) == NONE ? 1 << r : 0;
        return bits;
    }

    // ---- figures

    int figure(int d) {
        if (d < 1 || d > 9) return BAD;
        if (figures.size() == 40) return FULL;
        figures.add(d);
        return figures.size();
    }

    int noFigures() {
        int were = figures.size();
        figures.clear();
        return were;
    }

    int said(boolean counted, int k, int i) {
        if (k < 0 || k > 12 || i < -1) return BAD;
        List<Integer> row = figures;
        for (int step = 0; step < k && row != null; step++) row = counted ? tally(row) : say(row);
        return part(row, i);
    }

    private static int part(List<Integer> row, int i) {
        if (row == null) return NO;
        if (i == -1) return row.size();
        return i < row.size() ? row.get(i) : NONE;
    }

    private static List<Integer> say(List<Integer> from) {
        List<Integer> to = new ArrayList<>();
        for (int[] run : runs(from)) {
            if (run[1] > 9) return null;
            to.add(run[1]);
            to.add(run[0]);
        }
        return to.size() > 5000 ? null : to;
    }

    private static List<Integer> tally(List<Integer> from) {
        Map<Integer, Integer> many = new TreeMap<>();
        for (int d : from) many.merge(d, 1, Integer::sum);
        List<Integer> to = new ArrayList<>();
        for (Map.Entry<Integer, Integer> e : many.entrySet()) {
            if (e.getValue() > 9) return null;
            to.add(e.getValue());
            to.add(e.getKey());
        }
        return to;
    }

    /** The row that said once is this one: whatever comes out is said and compared. */
    private static List<Integer> unsay(List<Integer> from) {
        List<Integer> to = new ArrayList<>();
        for (int i = 0; i + 1 < from.size(); i += 2) {
            for (int times = 0; times < from.get(i); times++) to.add(from.get(i + 1));
        }
        List<Integer> said = new ArrayList<>();
        for (int[] run : runs(to)) {
            said.add(run[1]);
            said.add(run[0]);
        }
        return said.equals(from) ? to : null;
    }

    int unsaid(int i) {
        return i < -1 ? BAD : part(unsay(figures), i);
    }

    int backs() {
        List<Integer> row = figures;
        for (int backs = 0; backs < 20; backs++) {
            row = unsay(row);
            if (row == null || row.size() > 5000) return backs;
        }
        return 20;
    }

    int round(int what) {
        if (what < 0 || what > 1) return BAD;
        List<List<Integer>> steps = new ArrayList<>();
        List<Integer> row = figures;
        for (int step = 0; step <= 60 && row != null; step++) {
            steps.add(row);
            row = tally(row);
        }
        for (int tail = 0; tail < steps.size(); tail++) {
            for (int round = 1; tail + round < steps.size(); round++) {
                if (steps.get(tail).equals(steps.get(tail + round))) return what == 0 ? tail : round;
            }
        }
        return NO;
    }

    long tellers(int b, int i) {
        if (b < 2 || b > 10 || i < -1) return BAD;
        List<Long> all = TELLERS.computeIfAbsent(b, Model::allTellers);
        if (i == -1) return all.size();
        return i < all.size() ? all.get(i) : NONE;
    }

    private static List<Long> allTellers(int b) {
        TreeSet<Long> all = new TreeSet<>();
        tell(b, new int[b], 0, b, all);
        return new ArrayList<>(all);
    }

    /** All rows of b figures that come to b together. */
    private static void tell(int b, int[] figures, int place, int left, TreeSet<Long> all) {
        if (place == b) {
            int[] many = new int[b];
            long value = 0;
            for (int d : figures) {
                many[d]++;
                value = 10 * value + d;
            }
            if (java.util.Arrays.equals(many, figures)) all.add(value);
            return;
        }
        for (int d = 0; d < b && d <= left; d++) {
            figures[place] = d;
            tell(b, figures, place + 1, left - d, all);
        }
    }

    int count(int what) {
        if (what < 0 || what > 2) return BAD;
        return new int[] {text.length(), numbers.size(), figures.size()}[what];
    }
}
