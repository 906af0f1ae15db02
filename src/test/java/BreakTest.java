import java.util.ArrayList;
import java.util.List;
import java.util.Random;

/** Promise 22 against a plain model that tries every choice of breaks. */
final class BreakTest {
    private static final int RUNS = 3000, LETTERS = 5;

    /** One thing that is READ: a kind as the document numbers SORTS, 6 a HYPHEN, 7 a CALL. */
    private record Item(int kind, int code, int begin, int end, int wide) {
    }

    private record Made(List<Item> sorts, int width, int u, int spaces, int shares, boolean hyphen, boolean last) {
    }

    private final Random random;
    private final TypeRoom x = new TypeRoom();
    private final int[] widths = new int[LETTERS];
    private final int[][] kerns = new int[LETTERS][];
    private final List<int[]> joins = new ArrayList<>();
    private final int[] ornaments = new int[4];
    private int space;
    private int stretch;
    private int shrink;

    private BreakTest(int seed) {
        random = new Random(seed);
    }

    public static void main(String[] args) {
        for (int run = 0; run < RUNS && !Due.hasWrong(); run++) {
            BreakTest test = new BreakTest(run);
            test.cast();
            for (int i = 0; i < 3 && !Due.hasWrong(); i++) {
                test.compare("seed " + run);
            }
        }
        Due.end();
    }

    private void cast() {
        x.fount(1, LETTERS);
        Bench.stock(x, 1, LETTERS, 150);
        for (int a = 0; a < LETTERS; a++) {
            widths[a] = 1 + random.nextInt(4);
            x.width(1, a, widths[a]);
            int n = random.nextInt(LETTERS + 2) - 1;
            x.kernRow(1, a, n);
            kerns[a] = n < 0 ? null : new int[n];
            for (int b = 0; b < n; b++) {
                kerns[a][b] = random.nextInt(5) - 2;
                x.kern(1, a, b, kerns[a][b]);
            }
        }
        for (int j = random.nextInt(4); j > 0; j--) {
            int[] join = {random.nextInt(LETTERS), random.nextInt(LETTERS),
                random.nextInt(LETTERS + 1) - 1, 1 + random.nextInt(6)};
            int number = x.join(1, join[0], join[1], join[2], join[3]);
            x.buy(1, 1, number, 100);
            joins.add(join);
        }
        for (int k = 0; k < 4; k++) {
            ornaments[k] = 1 + random.nextInt(5);
            x.ornament(1, k, ornaments[k]);
        }
        space = 1 + random.nextInt(4);
        stretch = random.nextInt(4);
        shrink = random.nextInt(space + 1);
        x.spacing(1, space, stretch, shrink, 1);
    }

    private int[] randomSigns() {
        int n = random.nextInt(19);
        int[] signs = new int[n];
        for (int i = 0; i < n; i++) {
            int dice = random.nextInt(20);
            signs[i] = dice < 9 ? random.nextInt(LETTERS) : dice < 13 ? Bench.SPACE : dice < 15 ? Bench.HYPHEN
                    : dice < 16 ? Bench.RULE : dice < 17 ? Bench.CALL + random.nextInt(12)
                    : dice < 18 ? Bench.ORNAMENT + random.nextInt(4) : random.nextInt(LETTERS);
            if (dice == 19 && i + 2 < n) {
                signs[i] = Bench.STACK;
                signs[i + 1] = random.nextInt(LETTERS);
                signs[i + 2] = random.nextInt(LETTERS);
                i += 2;
            }
        }
        return signs;
    }

    private void compare(String name) {
        int[] signs = randomSigns();
        int m = random.nextInt(25);
        String run = name + " " + java.util.Arrays.toString(signs) + " to " + m;
        Bench.write(x, 2, signs);
        List<Made> due = best(read(signs), m);
        int faults = x.told(1);
        int out = x.told(3);
        Due.is(run + ": set()", x.set(2, 1, m), due.size());
        int zeros = 0;
        int sorts = 0;
        for (int l = 0; l < due.size(); l++) {
            Made made = due.get(l);
            zeros += compareLine(run, l, made, m, due.size());
            for (Item item : made.sorts) {
                sorts += item.kind == 5 ? 2 : 1;
            }
        }
        Due.is(run + ": told(1)", x.told(1) - faults, zeros);
        Due.is(run + ": told(3)", x.told(3) - out, sorts);
        Due.is(run + ": drop(0)", x.drop(0), sorts);
        Due.is(run + ": told(3)", x.told(3), out);
    }

    /** Answers how many ZEROS the line met. */
    private int compareLine(String run, int l, Made made, int m, int together) {
        int[] added = new int[made.sorts.size()];
        int how = justify(made, added);
        int width = made.width;
        for (int k = 0; k < added.length; k++) {
            width += added[k];
            Item item = made.sorts.get(k);
            Due.is(run + ": kind of " + l + " " + k, x.sortOf(l, k, 0), item.kind);
            Due.is(run + ": code of " + l + " " + k, x.sortOf(l, k, 1),
                    item.kind == 1 ? item.begin : item.kind == 5 ? 0 : item.code);
            Due.is(run + ": added of " + l + " " + k, x.sortOf(l, k, 2), added[k]);
        }
        int[] due = {2, 1, l, added.length, width, m, how, made.hyphen ? 1 : 0, l == together - 1 ? 1 : 0,
            badness(made)};
        for (int what = 0; what < due.length; what++) {
            Due.is(run + ": line(" + l + ", " + what + ")", x.line(l, what), due[what]);
        }
        return how == 3 ? 1 : 0;
    }

    private List<Item> read(int[] signs) {
        List<Item> items = new ArrayList<>();
        int at = 0;
        while (at < signs.length) {
            int sign = signs[at];
            int step = 1;
            if (sign == Bench.SPACE) {
                items.add(new Item(2, 0, -1, -1, space));
            } else if (sign == Bench.HYPHEN) {
                items.add(new Item(6, 0, -1, -1, 0));
            } else if (sign == Bench.RULE) {
                items.add(new Item(3, 0, -1, -1, 0));
            } else if (sign == Bench.STACK) {
                items.add(new Item(5, 0, -1, -1, Math.max(widths[signs[at + 1]], widths[signs[at + 2]])));
                step = 3;
            } else if (sign >= Bench.ORNAMENT) {
                items.add(new Item(4, sign - 96, -1, -1, ornaments[sign - 96]));
            } else if (sign >= Bench.CALL) {
                items.add(new Item(7, 0, -1, -1, 0));
            } else {
                step = readLetters(signs, at, items);
            }
            at += step;
        }
        return items;
    }

    private int readLetters(int[] signs, int at, List<Item> items) {
        for (int length = 3; length >= 2; length--) {
            for (int j = 0; j < joins.size(); j++) {
                int[] join = joins.get(j);
                boolean isThere = (join[2] >= 0) == (length == 3) && at + length <= signs.length
                        && signs[at] == join[0] && signs[at + 1] == join[1]
                        && (length == 2 || signs[at + 2] == join[2]);
                if (isThere) {
                    items.add(new Item(1, j, join[0], join[length - 1], join[3]));
                    return length;
                }
            }
        }
        items.add(new Item(0, signs[at], signs[at], signs[at], widths[signs[at]]));
        return 1;
    }

    private List<Made> best(List<Item> items, int m) {
        List<Integer> breaks = new ArrayList<>();
        for (int k = 0; k + 1 < items.size(); k++) {
            if (items.get(k).kind == 2 || items.get(k).kind == 6) {
                breaks.add(k + 1);
            }
        }
        List<Integer> bestEnds = null;
        long least = Long.MAX_VALUE;
        for (int choice = 0; choice < 1 << breaks.size(); choice++) {
            List<Integer> ends = new ArrayList<>();
            for (int b = 0; b < breaks.size(); b++) {
                if ((choice >> b & 1) != 0) {
                    ends.add(breaks.get(b));
                }
            }
            ends.add(items.size());
            long sum = 0;
            for (Made made : makeAll(items, ends, m)) {
                sum += badness(made);
            }
            if (sum < least || (sum == least && isEarlier(ends, bestEnds))) {
                least = sum;
                bestEnds = ends;
            }
        }
        return makeAll(items, bestEnds, m);
    }

    private static boolean isEarlier(List<Integer> some, List<Integer> other) {
        for (int i = 0; i < Math.min(some.size(), other.size()); i++) {
            if (!some.get(i).equals(other.get(i))) {
                return some.get(i) < other.get(i);
            }
        }
        return false;
    }

    private List<Made> makeAll(List<Item> items, List<Integer> ends, int m) {
        List<Made> lines = new ArrayList<>();
        int from = 0;
        for (int end : ends) {
            lines.add(make(items.subList(from, end), end == items.size(), m));
            from = end;
        }
        return lines;
    }

    private Made make(List<Item> items, boolean isLast, int m) {
        List<Item> sorts = new ArrayList<>();
        boolean isHyphen = !isLast && items.get(items.size() - 1).kind == 6;
        for (int k = 0; k < items.size(); k++) {
            boolean isDropped = !isLast && k == items.size() - 1;
            if (items.get(k).kind < 6 && !isDropped) {
                sorts.add(items.get(k));
            }
        }
        if (isHyphen) {
            sorts.add(new Item(0, 0, 0, 0, widths[0]));
        }
        int width = 0;
        int spaces = 0;
        int rules = 0;
        for (int k = 0; k < sorts.size(); k++) {
            Item item = sorts.get(k);
            width += item.wide + (k == 0 ? 0 : kern(sorts.get(k - 1).end, item.begin));
            spaces += item.kind == 2 ? 1 : 0;
            rules += item.kind == 3 ? 1 : 0;
        }
        return new Made(sorts, width, m - width, spaces, spaces + 3 * rules, isHyphen, isLast);
    }

    private int kern(int a, int b) {
        return a < 0 || b < 0 || kerns[a] == null || b >= kerns[a].length ? 0 : kerns[a][b];
    }

    private int badness(Made made) {
        int u = made.u;
        if (u < -shrink * made.spaces) {
            return 10000000 - u;
        }
        if (made.last) {
            return u < 0 ? u * u : 0;
        }
        return u * u + (u > stretch * made.shares ? 1000 : 0) + (made.hyphen ? 50 : 0);
    }

    private int justify(Made made, int[] added) {
        int u = made.u;
        boolean isTight = u < -shrink * made.spaces;
        if (!isTight && (u == 0 || (made.last && u > 0))) {
            return 0;
        }
        if (!isTight && u > 0 && made.shares == 0) {
            return 3;
        }
        int given = 0;
        for (int k = 0; k < added.length; k++) {
            int kind = made.sorts.get(k).kind;
            if (isTight) {
                added[k] = kind == 2 ? -shrink : 0;
            } else if (u > 0 && (kind == 2 || kind == 3)) {
                added[k] = u * (kind == 2 ? 1 : 3) / made.shares;
            } else if (u < 0 && kind == 2) {
                added[k] = u / made.spaces;
            }
            given += added[k];
        }
        if (isTight) {
            return 2;
        }
        for (int k = 0; k < added.length && given != u; k++) {
            int kind = made.sorts.get(k).kind;
            if (kind == 2 || (kind == 3 && u > 0)) {
                added[k] += u > 0 ? 1 : -1;
                given += u > 0 ? 1 : -1;
            }
        }
        return u > stretch * made.shares ? 1 : 0;
    }
}
