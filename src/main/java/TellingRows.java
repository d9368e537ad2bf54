import java.util.Arrays;

/** Rows that tell of themselves, numbers that break them, and figures that are said aloud. */
public final class TellingRows {
    public static final int BAD = -1, NO = -2, FULL = -3, NONE = -4;

    private static final int REGISTERS = 4;
    private static final int PLACES = 2000;
    private static final int GREATEST = 60000;
    private static final int LONGEST_PERIOD = 600;
    private static final int PERIODS = 3;
    private static final int TEXT_ROOM = 120;
    private static final int BEGINNINGS_ROOM = 6;
    private static final int NUMBERS_ROOM = 40;
    private static final int FIGURES_ROOM = 40;
    private static final int SAID_ROOM = 5000;
    private static final int MOST_OFTEN = 9;
    private static final int MOST_SAID = 12;
    private static final int MOST_BACKS = 20;
    private static final int MOST_ROUND = 60;
    private static final int LEAST_BASE = 2;
    private static final int MOST_BASE = 10;

    private static final Sort[] SORTS = Sort.values();

    private final Row[] registers = new Row[REGISTERS];
    private final Marks marks = new Marks();
    private final Maker maker = new Maker(marks);
    private final Sequence text = new Sequence(TEXT_ROOM);
    private final Item item = new Item();
    private final Sequence numbers = new Sequence(NUMBERS_ROOM);
    private final Sequence figures = new Sequence(FIGURES_ROOM);
    private final Speaker speaker = new Speaker();
    private final Rounds rounds = new Rounds();
    private final TellerSearch tellerSearch = new TellerSearch();

    public TellingRows() {
        for (int r = 0; r < REGISTERS; r++) {
            registers[r] = new Row();
        }
    }

    // ---- rows

    public int write(int n, long v) {
        if (n < 1 || n > 8) {
            return BAD;
        }
        if (text.size() + n > TEXT_ROOM) {
            return FULL;
        }
        for (int behind = n - 1; behind >= 0; behind--) {
            text.add((int) (v >>> (8 * behind)) & 255);
        }
        return text.size();
    }

    public int wipe() {
        return text.clear();
    }

    public int fault() {
        int place = 0;
        for (int items = 0; items < TEXT_ROOM && place < text.size(); items++) {
            if (!item.standsAt(text, place)) {
                return place;
            }
            place = item.end();
        }
        return NONE;
    }

    public int lay() {
        if (fault() != NONE) {
            return NO;
        }
        int items = 0;
        int place = 0;
        while (items < TEXT_ROOM && place < text.size() && item.standsAt(text, place)) {
            Row row = registerOf(item.register());
            if (row != null) {
                row.become(item);
            }
            place = item.end();
            items++;
        }
        return items;
    }

    public int told(int r, int what) {
        Row row = registerOf(r);
        if (row == null || what < 0 || what > BEGINNINGS_ROOM + 1) {
            return BAD;
        }
        if (what == 0) {
            return row.sort.code;
        }
        return what == 1 ? row.beginnings.size() : row.beginnings.get(what - 2);
    }

    public int at(int r, int i) {
        Row row = madeRow(r);
        if (row == null || i < 0 || i >= PLACES) {
            return BAD;
        }
        return row.numberAt(i);
    }

    public int first(int r, int v) {
        Row row = madeRow(r);
        if (row == null || !isNumber(v)) {
            return BAD;
        }
        return row.placeOf(v);
    }

    public int often(int r, int v, int n) {
        Row row = madeRow(r);
        if (row == null || !isNumber(v) || n < 0 || n > PLACES) {
            return BAD;
        }
        return row.countOf(v, n);
    }

    public int run(int r, int k, int what) {
        Row row = madeRow(r);
        if (row == null || k < 0 || what < 0 || what > 2) {
            return BAD;
        }
        int start = row.runStart(k);
        if (start == NONE || what == 2) {
            return start;
        }
        return what == 0 ? row.numberAt(start) : row.runEnd(start, row.length) - start;
    }

    public int most(int r, int n, int what) {
        Row row = madeRow(r);
        if (row == null || n < 1 || n > PLACES || what < 0 || what > 3) {
            return BAD;
        }
        if (what == 2) {
            return row.longestRun(n);
        }
        if (what == 3) {
            return row.unlike(n, marks);
        }
        int greatest = row.greatest(n);
        return what == 0 ? greatest : row.placeOf(greatest);
    }

    public int around(int r, int what) {
        Row row = madeRow(r);
        if (row == null || what < 0 || what > 1) {
            return BAD;
        }
        int period = row.period();
        return period == NONE || what == 0 ? period : row.tail(period);
    }

    // ---- numbers

    public int number(int v) {
        if (!isNumber(v)) {
            return BAD;
        }
        return numbers.add(v) ? numbers.size() : FULL;
    }

    public int noNumbers() {
        return numbers.clear();
    }

    public int breaks(int r) {
        Row row = madeRow(r);
        if (row == null) {
            return BAD;
        }
        for (int i = 0; i < numbers.size(); i++) {
            if (row.numberAt(i) != numbers.get(i)) {
                return i;
            }
        }
        return NONE;
    }

    public int may() {
        int bits = 0;
        for (int r = 0; r < REGISTERS; r++) {
            if (breaks(r) == NONE) {
                bits |= 1 << r;
            }
        }
        return bits;
    }

    // ---- figures

    public int figure(int d) {
        if (d < 1 || d > 9) {
            return BAD;
        }
        return figures.add(d) ? figures.size() : FULL;
    }

    public int noFigures() {
        return figures.clear();
    }

    public int said(boolean counted, int k, int i) {
        if (k < 0 || k > MOST_SAID || i < -1) {
            return BAD;
        }
        return part(speaker.speak(figures, counted, k), i);
    }

    public int unsaid(int i) {
        if (i < -1) {
            return BAD;
        }
        return part(speaker.takeBack(figures), i);
    }

    public int backs() {
        return speaker.mostBacks(figures);
    }

    public int round(int what) {
        if (what < 0 || what > 1) {
            return BAD;
        }
        if (!rounds.find(figures)) {
            return NO;
        }
        return what == 0 ? rounds.tail() : rounds.length();
    }

    public long tellers(int b, int i) {
        if (b < LEAST_BASE || b > MOST_BASE || i < -1) {
            return BAD;
        }
        int many = tellerSearch.search(b, i);
        return i == -1 ? many : tellerSearch.answer();
    }

    public int count(int what) {
        switch (what) {
            case 0:
                return text.size();
            case 1:
                return numbers.size();
            case 2:
                return figures.size();
            default:
                return BAD;
        }
    }

    // ---- what the calls share

    private static boolean isNumber(int v) {
        return v >= 0 && v <= GREATEST;
    }

    /** The register, or null where r is none. */
    private Row registerOf(int r) {
        return r >= 0 && r < REGISTERS ? registers[r] : null;
    }

    /** Rows are made when first asked for: most of what is laid is never looked at. */
    private Row madeRow(int r) {
        Row row = registerOf(r);
        if (row != null && !row.made) {
            maker.make(row);
        }
        return row;
    }

    /** How many figures there are (i = -1) or the i-th; there are none at all where null stands for NO. */
    private static int part(Sequence answer, int i) {
        if (answer == null) {
            return NO;
        }
        return i == -1 ? answer.size() : answer.get(i);
    }

    /** Whole numbers one behind the other, up to a room that never grows. */
    private static final class Sequence {
        private final int[] items;
        private int size;

        Sequence(int room) {
            items = new int[Math.max(room, 0)];
        }

        int size() {
            return size;
        }

        int get(int i) {
            return i >= 0 && i < size && i < items.length ? items[i] : NONE;
        }

        boolean add(int item) {
            if (size < 0 || size >= items.length) {
                return false;
            }
            items[size] = item;
            size++;
            return true;
        }

        /** How many there were. */
        int clear() {
            int were = size;
            size = 0;
            return were;
        }

        void copy(Sequence other) {
            size = 0;
            for (int i = 0; i < other.size; i++) {
                add(other.get(i));
            }
        }

        boolean same(Sequence other) {
            if (size != other.size) {
                return false;
            }
            for (int i = 0; i < size; i++) {
                if (get(i) != other.get(i)) {
                    return false;
                }
            }
            return true;
        }
    }

    /** A mark for each number that a row may hold. */
    private static final class Marks {
        private final int[] marks = new int[GREATEST + 1];

        void clear() {
            Arrays.fill(marks, 0);
        }

        int of(int v) {
            return v >= 0 && v < marks.length ? marks[v] : 0;
        }

        /** A number that no row may hold gets no mark. */
        void put(int v, int mark) {
            if (v >= 0 && v < marks.length) {
                marks[v] = mark;
            }
        }

        void raise(int v) {
            if (v >= 0 && v < marks.length) {
                marks[v]++;
            }
        }
    }

    /** The sorts of rows, and which beginnings each may have. */
    private enum Sort {
        REACH(0, 2, 6, 1, 9),
        FOLD(1, 2, 6, 1, 9),
        BACK(2, 1, 6, 0, 99),
        AGAIN(3, 1, 6, 1, 9),
        SUMS(4, 2, 2, 1, 20),
        SO_FAR(5, 1, 6, 0, 9),
        FREE(6, 0, 6, 0, 99);

        private final int code;
        private final int fewest;
        private final int most;
        private final int lowest;
        private final int highest;

        Sort(int code, int fewest, int most, int lowest, int highest) {
            this.code = code;
            this.fewest = fewest;
            this.most = most;
            this.lowest = lowest;
            this.highest = highest;
        }

        boolean allows(Sequence beginnings) {
            if (beginnings.size() < fewest || beginnings.size() > most) {
                return false;
            }
            for (int i = 0; i < beginnings.size(); i++) {
                if (beginnings.get(i) < lowest || beginnings.get(i) > highest) {
                    return false;
                }
            }
            return this != SUMS || beginnings.get(1) > beginnings.get(0);
        }
    }

    /** Reads one item of a text; what it read holds till the next reading. */
    private static final class Item {
        private final Sequence read = new Sequence(2 + BEGINNINGS_ROOM);
        private final Sequence beginnings = new Sequence(BEGINNINGS_ROOM);
        private int end;

        int end() {
            return end;
        }

        int register() {
            return read.get(0);
        }

        /** Null where the number told is no sort's. */
        Sort sort() {
            int code = read.get(1);
            return code >= 0 && code < SORTS.length ? SORTS[code] : null;
        }

        boolean standsAt(Sequence text, int start) {
            if (!readsNumbers(text, start) || register() < 0 || register() >= REGISTERS) {
                return false;
            }
            beginnings.clear();
            for (int i = 2; i < read.size(); i++) {
                beginnings.add(read.get(i));
            }
            Sort sort = sort();
            return sort != null && sort.allows(beginnings);
        }

        private boolean readsNumbers(Sequence text, int start) {
            read.clear();
            if (text.get(start) != 'r') {
                return false;
            }
            int value = 0;
            int figures = 0;
            for (int place = start + 1; place < text.size(); place++) {
                int sign = text.get(place);
                if (sign >= '0' && sign <= '9' && figures < 2) {
                    value = 10 * value + sign - '0';
                    figures++;
                } else if ((sign == ',' || sign == ';') && figures > 0 && read.add(value)) {
                    if (sign == ';') {
                        end = place + 1;
                        return true;
                    }
                    value = 0;
                    figures = 0;
                } else {
                    return false;
                }
            }
            return false;
        }
    }

    /** A row: how it is told, and its numbers once they are made. */
    private static final class Row {
        private final Sequence beginnings = new Sequence(BEGINNINGS_ROOM);
        private final int[] numbers = new int[PLACES];
        private Sort sort = Sort.REACH;
        private boolean made;
        private int length;

        Row() {
            beginnings.add(1);
            beginnings.add(1);
        }

        void become(Item item) {
            Sort told = item.sort();
            if (told == null) {
                return;
            }
            sort = told;
            beginnings.copy(item.beginnings);
            made = false;
        }

        int numberAt(int i) {
            return i >= 0 && i < length && i < PLACES ? numbers[i] : NONE;
        }

        int placeOf(int v) {
            for (int i = 0; i < length; i++) {
                if (numberAt(i) == v) {
                    return i;
                }
            }
            return NONE;
        }

        int countOf(int v, int n) {
            int many = 0;
            for (int i = 0; i < n && i < length; i++) {
                if (numberAt(i) == v) {
                    many++;
                }
            }
            return many;
        }

        /** The place behind the run that begins at start, of the places ahead of end. */
        int runEnd(int start, int end) {
            int place = start + 1;
            while (place < end && numberAt(place) == numberAt(start)) {
                place++;
            }
            return place;
        }

        int runStart(int k) {
            int start = 0;
            for (int runs = 0; runs < k && start < length; runs++) {
                start = runEnd(start, length);
            }
            return start < length ? start : NONE;
        }

        int greatest(int n) {
            int greatest = NONE;
            for (int i = 0; i < n && i < length; i++) {
                greatest = Math.max(greatest, numberAt(i));
            }
            return greatest;
        }

        int longestRun(int n) {
            int end = Math.min(n, length);
            int longest = 0;
            int start = 0;
            for (int runs = 0; runs < PLACES && start < end; runs++) {
                int behind = runEnd(start, end);
                longest = Math.max(longest, behind - start);
                start = behind;
            }
            return longest;
        }

        int unlike(int n, Marks seen) {
            seen.clear();
            int many = 0;
            for (int i = 0; i < n && i < length; i++) {
                if (seen.of(numberAt(i)) == 0) {
                    seen.put(numberAt(i), 1);
                    many++;
                }
            }
            return many;
        }

        int period() {
            for (int period = 1; period <= LONGEST_PERIOD && PERIODS * period <= length; period++) {
                if (length - tail(period) >= PERIODS * period) {
                    return period;
                }
            }
            return NONE;
        }

        /** The least place from which on each number is a period farther on. */
        int tail(int period) {
            int place = Math.max(length - period, 0);
            while (place > 0 && numberAt(place - 1) == numberAt(place - 1 + period)) {
                place--;
            }
            return place;
        }
    }

    /** Makes the numbers of a row, each out of those ahead of it. */
    private static final class Maker {
        private final Marks marks;
        /** For each length of blocks how many numbers at the end are like those that far ahead of them. */
        private final int[] alike = new int[PLACES / 2];

        Maker(Marks marks) {
            this.marks = marks;
        }

        void make(Row row) {
            marks.clear();
            Arrays.fill(alike, 0);
            int[] numbers = row.numbers;
            int place = 0;
            while (place < PLACES && place < numbers.length) {
                // also where a beginning stands: what is due keeps account of the numbers ahead
                int due = place == 0 ? 0 : due(row.sort, numbers, place);
                int next = place < row.beginnings.size() ? row.beginnings.get(place) : due;
                if (!isNumber(next)) {
                    break;
                }
                numbers[place] = next;
                place++;
            }
            row.length = place;
            row.made = true;
        }

        /** The number due at place n (1 to 1999) behind the numbers ahead of it; no number where the row ends. */
        private int due(Sort sort, int[] numbers, int n) {
            switch (sort) {
                case REACH:
                    return reach(numbers, n);
                case FOLD:
                    return fold(numbers, n);
                case BACK:
                    return back(numbers[n - 1], n);
                case AGAIN:
                    return again(numbers, n);
                case SUMS:
                    return sum(numbers, n);
                case SO_FAR:
                    return soFar(numbers[n - 1]);
                case FREE:
                    return free(numbers, n);
                default:
                    return NONE;
            }
        }

        private int reach(int[] numbers, int n) {
            if (n < 2) {
                return NONE;
            }
            int one = n - numbers[n - 1];
            int other = n - numbers[n - 2];
            boolean stand = one >= 0 && one < n && other >= 0 && other < n;
            return stand ? numbers[one] + numbers[other] : NONE;
        }

        private int fold(int[] numbers, int n) {
            int x = numbers[n - 1];
            return x >= 1 && x <= n ? numbers[x - 1] + numbers[n - x] : NONE;
        }

        /** Marks are places counted from 1: an unmarked number has not stood yet. */
        private int back(int ahead, int n) {
            int last = marks.of(ahead);
            marks.put(ahead, n);
            return last == 0 ? 0 : n - last;
        }

        private int again(int[] numbers, int n) {
            int most = 1;
            for (int block = 1; block < n && block < alike.length; block++) {
                alike[block] = numbers[n - 1] == numbers[n - 1 - block] ? alike[block] + 1 : 0;
                if (alike[block] >= block) {
                    most = Math.max(most, alike[block] / block + 1);
                }
            }
            return most;
        }

        /** Marks tell in how many ways a number is a sum. */
        private int sum(int[] numbers, int n) {
            int ahead = numbers[n - 1];
            for (int i = 0; i < n - 1; i++) {
                marks.raise(ahead + numbers[i]);
            }
            for (int next = ahead + 1; next <= GREATEST; next++) {
                if (marks.of(next) == 1) {
                    return next;
                }
            }
            return NONE;
        }

        private int soFar(int ahead) {
            marks.raise(ahead);
            return marks.of(ahead);
        }

        /** Marks tell for which place a number was last ruled out, so they need no wiping from place to place. */
        private int free(int[] numbers, int n) {
            for (int d = 1; 2 * d <= n; d++) {
                marks.put(2 * numbers[n - d] - numbers[n - 2 * d], n);
            }
            for (int next = 0; next <= n; next++) {
                if (marks.of(next) != n) {
                    return next;
                }
            }
            return NONE;
        }
    }

    /** Says, counts and takes back figures, in two rows by turns; null where that can't be. */
    private static final class Speaker {
        private final Sequence one = new Sequence(SAID_ROOM);
        private final Sequence other = new Sequence(SAID_ROOM);

        Sequence speak(Sequence figures, boolean counted, int times) {
            Sequence here = one;
            Sequence there = other;
            here.copy(figures);
            for (int k = 0; k < times; k++) {
                if (!(counted ? tally(here, there) : say(here, there))) {
                    return null;
                }
                Sequence spoken = there;
                there = here;
                here = spoken;
            }
            return here;
        }

        Sequence takeBack(Sequence figures) {
            return unsay(figures, one) ? one : null;
        }

        int mostBacks(Sequence figures) {
            Sequence here = one;
            Sequence there = other;
            here.copy(figures);
            int backs = 0;
            while (backs < MOST_BACKS && unsay(here, there)) {
                Sequence back = there;
                there = here;
                here = back;
                backs++;
            }
            return backs;
        }

        private static boolean say(Sequence from, Sequence to) {
            to.clear();
            int run = 0;
            for (int i = 0; i < from.size(); i++) {
                run++;
                if (i + 1 < from.size() && from.get(i + 1) == from.get(i)) {
                    continue;
                }
                if (run > MOST_OFTEN || !to.add(run) || !to.add(from.get(i))) {
                    return false;
                }
                run = 0;
            }
            return true;
        }

        static boolean tally(Sequence from, Sequence to) {
            to.clear();
            for (int figure = 1; figure <= 9; figure++) {
                int many = 0;
                for (int i = 0; i < from.size(); i++) {
                    if (from.get(i) == figure) {
                        many++;
                    }
                }
                if (many > MOST_OFTEN || many > 0 && !(to.add(many) && to.add(figure))) {
                    return false;
                }
            }
            return true;
        }

        private static boolean unsay(Sequence from, Sequence to) {
            to.clear();
            if (from.size() % 2 != 0) {
                return false;
            }
            for (int i = 0; i < from.size(); i += 2) {
                int figure = from.get(i + 1);
                if (i > 0 && figure == from.get(i - 1)) {
                    return false;
                }
                for (int times = 0; times < from.get(i); times++) {
                    if (!to.add(figure)) {
                        return false;
                    }
                }
            }
            return true;
        }
    }

    /** Finds from where on counting figures again and again goes round, and how long the round is. */
    private static final class Rounds {
        private final Sequence[] steps = new Sequence[MOST_ROUND + 1];
        private int tail;
        private int length;

        Rounds() {
            for (int i = 0; i < steps.length; i++) {
                steps[i] = new Sequence(FIGURES_ROOM);
            }
        }

        int tail() {
            return tail;
        }

        int length() {
            return length;
        }

        boolean find(Sequence figures) {
            steps[0].copy(figures);
            for (int step = 1; step < steps.length; step++) {
                if (!Speaker.tally(steps[step - 1], steps[step])) {
                    return false;
                }
                for (int early = 0; early < step; early++) {
                    if (steps[early].same(steps[step])) {
                        tail = early;
                        length = step - early;
                        return true;
                    }
                }
            }
            return false;
        }
    }

    /** Finds the numbers that tell how many figures of each sort they have. */
    private static final class TellerSearch {
        private final int[] figures = new int[MOST_BASE];
        private int wanted;
        private int found;
        private long answer;

        long answer() {
            return answer;
        }

        /** How many there are; the one that is wanted is kept as the answer, which stays NONE without it. */
        int search(int base, int which) {
            wanted = which;
            found = 0;
            answer = NONE;
            fill(this, base, 0, base, base);
            return found;
        }

        /**
         * All figures together are the base, as each of the base figures is counted once; and so is each one
         * times its place, as that is what all figures come to. What is left of both keeps the search small.
         */
        private static void fill(TellerSearch search, int base, int place, int figuresLeft, int valueLeft) {
            if (place < 0 || place >= base || place >= search.figures.length) {
                if (search.tells(base)) {
                    search.keep(base);
                }
                return;
            }
            for (int d = 0; d < base && d <= figuresLeft && d * place <= valueLeft; d++) {
                search.figures[place] = d;
                fill(search, base, place + 1, figuresLeft - d, valueLeft - d * place);
            }
        }

        private boolean tells(int base) {
            for (int j = 0; j < base && j < figures.length; j++) {
                int many = 0;
                for (int i = 0; i < base && i < figures.length; i++) {
                    if (figures[i] == j) {
                        many++;
                    }
                }
                if (many != figures[j]) {
                    return false;
                }
            }
            return true;
        }

        private void keep(int base) {
            if (found == wanted) {
                answer = 0;
                for (int i = 0; i < base && i < figures.length; i++) {
                    answer = 10 * answer + figures[i];
                }
            }
            found++;
        }
    }
}
