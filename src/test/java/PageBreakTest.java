import java.util.ArrayList;
import java.util.List;
import java.util.Random;

/** Promise 26 against a plain model: every choice of pages, or page by page if there are many LINES. */
final class PageBreakTest {
    private static final int RUNS = 600;

    private record OneLine(int height, int order, int together, List<Integer> calls) {
        boolean isLastOfMore() {
            return together > 1 && order == together - 1;
        }

        boolean isFirstOfMore() {
            return together > 1 && order == 0;
        }
    }

    private final Random random;
    private final TypeRoom x = new TypeRoom();
    private final List<OneLine> lines = new ArrayList<>();
    private final int[] noteHeights = new int[12];
    private final int[] heights = new int[4];

    private PageBreakTest(int seed) {
        random = new Random(seed);
    }

    public static void main(String[] args) {
        for (int run = 0; run < RUNS && !Due.hasWrong(); run++) {
            PageBreakTest test = new PageBreakTest(run);
            boolean isMany = run % 3 == 0;
            test.setLines(isMany ? 41 : 12, isMany ? 49 : 14);
            for (int i = 0; i < (isMany ? 1 : 4) && !Due.hasWrong(); i++) {
                test.compare("seed " + run, isMany);
            }
        }
        Due.end();
    }

    private void setLines(int least, int most) {
        for (int f = 0; f < 4; f++) {
            x.fount(f, 1);
            x.buy(f, 0, 0, 90);
            heights[f] = 1 + random.nextInt(3);
            x.spacing(f, 3, 2, 1, heights[f]);
        }
        while (lines.size() < least) {
            int f = random.nextInt(4);
            int words = 1 + random.nextInt(Math.min(6, most - lines.size()));
            setWords(f, words);
        }
        int dropped = lines.size() > least ? random.nextInt(lines.size() - least) : 0;
        if (dropped > 0) {
            x.drop(lines.size() - dropped);
            lines.subList(lines.size() - dropped, lines.size()).clear();
        }
        Due.is("told(4)", x.told(4), lines.size());
        for (int p = 0; p < 12; p++) {
            noteHeights[p] = random.nextInt(5);
            x.note(p, noteHeights[p]);
        }
    }

    private void setWords(int f, int words) {
        List<Integer> signs = new ArrayList<>();
        for (int w = 0; w < words; w++) {
            List<Integer> calls = new ArrayList<>();
            if (w > 0) {
                signs.add(Bench.SPACE);
            }
            signs.add(0);
            for (int c = Math.max(0, random.nextInt(6) - 3); c > 0; c--) {
                int p = random.nextInt(12);
                calls.add(p);
                signs.add(Bench.CALL + p);
            }
            lines.add(new OneLine(heights[f], w, words, calls));
        }
        int[] row = new int[signs.size()];
        for (int i = 0; i < row.length; i++) {
            row[i] = signs.get(i);
        }
        Bench.write(x, 0, row);
        Due.is("set()", x.set(0, f, 1), words);
    }

    private void compare(String name, boolean isMany) {
        int h = isMany ? 5 + random.nextInt(26) : 1 + random.nextInt(16);
        List<Integer> due = isMany ? filled(h) : best(h);
        String run = name + ", makeup(" + h + ")";
        Due.is(run, x.makeup(h), due.size());
        int first = 0;
        for (int k = 0; k < due.size(); k++) {
            List<Integer> notes = notes(first, due.get(k));
            int[] answers = {first, due.get(k), height(first, due.get(k)), how(first, due.get(k), h), notes.size()};
            for (int what = 0; what < 5; what++) {
                Due.is(run + ": page(" + k + ", " + what + ")", x.page(k, what), answers[what]);
            }
            for (int i = 0; i <= notes.size(); i++) {
                int note = i < notes.size() ? notes.get(i) : Bench.NONE;
                Due.is(run + ": noteOf(" + k + ", " + i + ")", x.noteOf(k, i), note);
            }
            first += due.get(k);
        }
    }

    private List<Integer> notes(int first, int count) {
        List<Integer> notes = new ArrayList<>();
        for (OneLine line : lines.subList(first, first + count)) {
            for (int p : line.calls) {
                if (!notes.contains(p)) {
                    notes.add(p);
                }
            }
        }
        return notes;
    }

    private int height(int first, int count) {
        int height = 0;
        for (OneLine line : lines.subList(first, first + count)) {
            height += line.height;
        }
        for (int p : notes(first, count)) {
            height += noteHeights[p];
        }
        return height;
    }

    private int how(int first, int count, int h) {
        return (lines.get(first).isLastOfMore() ? 1 : 0) + (lines.get(first + count - 1).isFirstOfMore() ? 2 : 0)
                + (height(first, count) > h ? 4 : 0);
    }

    /** Choices in the order of fewer LINES first, so that the first of equal ones is the one that is due. */
    private List<Integer> best(int h) {
        List<Integer> best = new ArrayList<>();
        long[] least = {Long.MAX_VALUE};
        choose(h, 0, 0, new ArrayList<>(), best, least);
        return best;
    }

    private void choose(int h, int first, long sum, List<Integer> chosen, List<Integer> best, long[] least) {
        if (first == lines.size()) {
            if (sum < least[0]) {
                least[0] = sum;
                best.clear();
                best.addAll(chosen);
            }
            return;
        }
        for (int count = 1; first + count <= lines.size(); count++) {
            int height = height(first, count);
            if (height > h && count > 1) {
                break;
            }
            boolean isLast = first + count == lines.size();
            long badness = height > h ? 100000000L + height - h : isLast ? 0 : (long) (h - height) * (h - height);
            badness += 1000000L * Integer.bitCount(how(first, count, h) & 3);
            chosen.add(count);
            choose(h, first + count, sum + badness, chosen, best, least);
            chosen.remove(chosen.size() - 1);
        }
    }

    private List<Integer> filled(int h) {
        List<Integer> counts = new ArrayList<>();
        int first = 0;
        while (first < lines.size()) {
            int count = 1;
            while (first + count < lines.size() && height(first, count + 1) <= h) {
                count++;
            }
            boolean isOrphan = (how(first, count, h) & 2) != 0;
            boolean leavesWidow = first + count < lines.size() && lines.get(first + count).isLastOfMore();
            if (count >= 2 && (isOrphan || leavesWidow)) {
                count--;
            }
            counts.add(count);
            first += count;
        }
        return counts;
    }
}
