import java.util.Random;

/** Many runs of 512 calls on new objects, each answer held against the model's. */
public final class ModelTest {
    private static final int RUNS = 160;
    private static final int CALLS = 512;
    private static final int[] ROOM = {4, 7, 0, 1, 8, 9, 10, 11, 12, 13, 39, 40, 41, 120, 121, 599, 600, 601,
        1998, 1999, 2000, 2001, 5000, 5001, 59999, 60000, 60001, Integer.MAX_VALUE, Integer.MIN_VALUE, -1, -2, -3};

    private final Random random;
    private final TellingRows x = new TellingRows();
    private final Model model = new Model();

    private ModelTest(int seed) {
        random = new Random(seed);
    }

    public static void main(String[] args) {
        for (int run = 0; run < RUNS; run++) {
            new ModelTest(run).calls();
        }
        Check.end(2, 24);
    }

    private void calls() {
        int made = 0;
        while (made < CALLS) {
            int kind = random.nextInt(14);
            if (kind == 0 && made + 20 < CALLS) {
                made += text();
            } else if (kind == 1 && made + 45 < CALLS) {
                made += numbersOfRow();
            } else if (kind == 2 && made + 45 < CALLS) {
                made += figures();
            } else {
                call(random.nextInt(23));
                made++;
            }
        }
    }

    private void due(int promise, String call, long got, long want) {
        Check.due(promise, call, got, want);
    }

    /** Mostly from low on, now and then any. */
    private int any(int low, int high) {
        int kind = random.nextInt(20);
        if (kind == 0) return ROOM[random.nextInt(ROOM.length)];
        if (kind == 1) return random.nextBoolean() ? low - 1 : high + 1;
        if (kind == 2) return random.nextBoolean() ? low : high;
        return low + random.nextInt(high - low + 1);
    }

    private void call(int which) {
        int r = any(0, 3), i = any(-1, 60), what = any(0, 2), place = any(0, 1999), few = any(0, 30);
        boolean counted = random.nextBoolean();
        switch (which) {
            case 0: { int n = any(1, 8); long v = random.nextLong();
                due(2, "write " + n, x.write(n, v), model.write(n, v)); break; }
            case 1: if (random.nextInt(4) == 0) due(3, "wipe", x.wipe(), model.wipe()); break;
            case 2: due(4, "fault", x.fault(), model.fault()); break;
            case 3: due(5, "lay", x.lay(), model.lay()); break;
            case 4: { int w = any(0, 7); due(6, "told " + r + " " + w, x.told(r, w), model.told(r, w)); break; }
            case 5: due(7, "at " + r + " " + place, x.at(r, place), model.at(r, place)); break;
            case 6: { int p = any(0, 12); due(7, "at " + r + " " + p, x.at(r, p), model.at(r, p)); break; }
            case 7: due(8, "first " + r + " " + few, x.first(r, few), model.first(r, few)); break;
            case 8: due(8, "first " + r + " " + place, x.first(r, place), model.first(r, place)); break;
            case 9: due(9, "often " + few + " " + place, x.often(r, few, place), model.often(r, few, place)); break;
            case 10: due(10, "run " + few + " " + what, x.run(r, few, what), model.run(r, few, what)); break;
            case 11: due(10, "run " + place + " " + what, x.run(r, place, what), model.run(r, place, what)); break;
            case 12: { int w = any(0, 3);
                due(11, "most " + place + " " + w, x.most(r, place, w), model.most(r, place, w)); break; }
            case 13: { int w = any(0, 1); due(12, "around " + w, x.around(r, w), model.around(r, w)); break; }
            case 14: due(13, "number " + few, x.number(few), model.number(few)); break;
            case 15: if (random.nextInt(4) == 0) due(14, "noNumbers", x.noNumbers(), model.noNumbers()); break;
            case 16: due(15, "breaks " + r, x.breaks(r), model.breaks(r)); break;
            case 17: due(16, "may", x.may(), model.may()); break;
            case 18: { int d = any(1, 9); due(17, "figure " + d, x.figure(d), model.figure(d)); break; }
            case 19: if (random.nextInt(4) == 0) due(18, "noFigures", x.noFigures(), model.noFigures()); break;
            case 20: { int k = any(0, 12);
                due(19, "said " + counted + k + " " + i, x.said(counted, k, i), model.said(counted, k, i)); break; }
            case 21: due(20, "unsaid " + i, x.unsaid(i), model.unsaid(i)); break;
            default: rest(); break;
        }
    }

    private void rest() {
        int what = any(0, 1), b = any(2, 10), i = any(-1, 2);
        switch (random.nextInt(4)) {
            case 0: due(21, "backs", x.backs(), model.backs()); break;
            case 1: due(22, "round " + what, x.round(what), model.round(what)); break;
            case 2: due(23, "tellers " + b + " " + i, x.tellers(b, i), model.tellers(b, i)); break;
            default: due(24, "count " + (i + 1), x.count(i + 1), model.count(i + 1)); break;
        }
    }

    /** A text of some items, most of them so, laid. */
    private int text() {
        StringBuilder text = new StringBuilder();
        for (int items = 1 + random.nextInt(4); items > 0; items--) {
            text.append(item());
        }
        if (random.nextInt(8) == 0) {
            text.setCharAt(random.nextInt(text.length()), "r0123456789,;xR:/".charAt(random.nextInt(17)));
        }
        due(3, "wipe", x.wipe(), model.wipe());
        int calls = 3;
        for (int i = 0; i < text.length(); i += 8) {
            String part = text.substring(i, Math.min(i + 8, text.length()));
            due(2, "write", x.write(part.length(), Check.packed(part)),
                model.write(part.length(), Check.packed(part)));
            calls++;
        }
        due(4, "fault of " + text, x.fault(), model.fault());
        due(5, "lay of " + text, x.lay(), model.lay());
        return calls;
    }

    private String item() {
        int sort = random.nextInt(7);
        int[] limits = {9, 9, 99, 9, 20, 9, 99};
        int high = random.nextInt(3) == 0 ? limits[sort] : 3;
        int many = random.nextInt(15) == 0 ? random.nextInt(9) : sort == 4 ? 2 : 2 + random.nextInt(4);
        StringBuilder item = new StringBuilder("r").append(random.nextInt(20) == 0 ? 4 : random.nextInt(4));
        item.append(',').append(random.nextInt(20) == 0 ? "0" : "").append(sort);
        int least = sort == 4 ? 1 + random.nextInt(19) : 0;
        for (int i = 0; i < many; i++) {
            int number = sort == 4 && i == 1 ? least + 1 + random.nextInt(20 - least)
                : sort == 4 ? least : random.nextInt(high + 1);
            if (number == 0 && (sort < 2 || sort == 3) && random.nextInt(20) != 0) {
                number = 1;
            }
            item.append(',').append(number < 10 && random.nextInt(20) == 0 ? "0" : "").append(number);
        }
        return item.append(';').toString();
    }

    /** Numbers as a row has them, the last one now and then another. */
    private int numbersOfRow() {
        int r = random.nextInt(4), many = 1 + random.nextInt(20);
        due(14, "noNumbers", x.noNumbers(), model.noNumbers());
        for (int i = 0; i < many; i++) {
            int v = model.at(r, i) + (random.nextInt(40) == 0 ? 1 : 0);
            due(13, "number " + v, x.number(v), model.number(v));
        }
        due(15, "breaks " + r, x.breaks(r), model.breaks(r));
        due(16, "may", x.may(), model.may());
        return many + 3;
    }

    /** New figures, often of few sorts or said from fewer ones. */
    private int figures() {
        int many = random.nextInt(41), sorts = 1 + random.nextInt(9), figure = 1 + random.nextInt(9);
        due(18, "noFigures", x.noFigures(), model.noFigures());
        if (random.nextInt(3) == 0) {
            return 1 + saidFigures();
        }
        for (int i = 0; i < many; i++) {
            figure = random.nextInt(3) == 0 ? figure : 1 + random.nextInt(sorts);
            due(17, "figure " + figure, x.figure(figure), model.figure(figure));
        }
        return 1 + many;
    }

    private int saidFigures() {
        Model other = new Model();
        for (int i = random.nextInt(4); i >= 0; i--) {
            other.figure(1 + random.nextInt(3));
        }
        boolean counted = random.nextInt(4) == 0;
        int k = random.nextInt(8);
        int many = Math.min(other.said(counted, k, -1), 40);
        for (int i = 0; i < many; i++) {
            int d = other.said(counted, k, i);
            due(17, "figure " + d, x.figure(d), model.figure(d));
        }
        return Math.max(many, 0);
    }
}
