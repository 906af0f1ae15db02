import java.util.ArrayList;
import java.util.Arrays;
import java.util.List;

/**
 * The document once more, in its plainest form, for comparing answers: rows are rows of the machine, SORTS are
 * classes that lend one another what they do, and what the machine throws is caught by its kind and told.
 */
final class Model {
    private static final int BAD = -1, STATE = -2, FULL = -3, NONE = -4;

    /** A call that is refused, or meets EMPTY, which the machine does not know. */
    private static final class Answer extends RuntimeException {
        private static final long serialVersionUID = 1L;
        final int told;

        Answer(int told) {
            super(null, null, false, false);
            this.told = told;
        }
    }

    private static final class Join {
        final int[] letters;
        final int wide;

        Join(int[] letters, int wide) {
            this.letters = letters;
            this.wide = wide;
        }
    }

    private static final class Fount {
        final int number;
        final int[] widths;
        final int[][] kerns;
        final List<Join> joins = new ArrayList<>();
        final int[] ornaments = {2, 2, 2, 2};
        int space = 3;
        int stretch = 2;
        int shrink = 1;
        int height = 1;

        Fount(int number, int n) {
            this.number = number;
            widths = new int[n];
            kerns = new int[n][];
            Arrays.fill(widths, 1);
        }

        int kern(Letter first, Letter second) {
            int[] row = kerns[first.last()];
            return row == null || second.letter >= row.length ? 0 : row[second.letter];
        }
    }

    private abstract class Sort {
        final Fount fount;
        final int kind;
        final int box;

        Sort(Fount fount, int kind, int box) {
            this.fount = fount;
            this.kind = kind;
            this.box = box;
        }

        abstract int wide();

        abstract Sort copy();

        int code() {
            return 0;
        }

        List<Sort> parts() {
            return List.of(this);
        }
    }

    private interface Inked {
        int lent();
    }

    private class Letter extends Sort implements Inked {
        final int letter;

        Letter(Fount fount, int letter) {
            this(fount, 0, letter, letter);
        }

        Letter(Fount fount, int kind, int box, int letter) {
            super(fount, kind, box);
            this.letter = letter;
        }

        int last() {
            return letter;
        }

        @Override int wide() {
            begin(1);
            return fount.widths[letter];
        }

        @Override public int lent() {
            begin(21);
            return 3 * letter + 7;
        }

        @Override int code() {
            return letter;
        }

        @Override Sort copy() {
            return this;
        }
    }

    private final class Joined extends Letter {
        Joined(Fount fount, int join) {
            super(fount, 1, join, fount.joins.get(join).letters[0]);
        }

        @Override int last() {
            int[] letters = fount.joins.get(box).letters;
            return letters[letters.length - 1];
        }

        @Override int wide() {
            begin(2);
            return fount.joins.get(box).wide;
        }

        @Override public int lent() {
            begin(22);
            return super.lent() + 100 + box;
        }
    }

    private class Space extends Sort {
        int added = 0;

        Space(Fount fount, int kind) {
            super(fount, kind, 0);
        }

        int base() {
            begin(6);
            return fount.space;
        }

        @Override int wide() {
            begin(3);
            return base() + added;
        }

        int share() {
            begin(10);
            return 1;
        }

        @Override Sort copy() {
            Space other = new Space(fount, 2);
            other.added = added;
            return other;
        }
    }

    private final class Rule extends Space implements Inked {
        Rule(Fount fount) {
            super(fount, 3);
        }

        @Override int base() {
            begin(7);
            return 0;
        }

        @Override int share() {
            begin(11);
            return super.share() + 2;
        }

        @Override public int lent() {
            begin(20);
            return wide() + 9;
        }

        @Override Sort copy() {
            Rule other = new Rule(fount);
            other.added = added;
            return other;
        }
    }

    private final class Ornament extends Sort implements Inked {
        Ornament(Fount fount, int ornament) {
            super(fount, 4, ornament);
        }

        @Override int wide() {
            begin(4);
            return fount.ornaments[box];
        }

        @Override public int lent() {
            begin(20);
            return wide() + 9;
        }

        @Override int code() {
            return box;
        }

        @Override Sort copy() {
            return this;
        }
    }

    private final class Stack extends Sort implements Inked {
        final Letter first;
        final Letter second;

        Stack(Letter first, Letter second) {
            super(first.fount, 5, 0);
            this.first = first;
            this.second = second;
        }

        @Override int wide() {
            begin(5);
            int wide = first.wide();
            return Math.max(wide, second.wide());
        }

        @Override public int lent() {
            begin(23);
            int ink = 5 * first.lent();
            return ink + second.lent();
        }

        @Override List<Sort> parts() {
            return List.of(first, second);
        }

        @Override Sort copy() {
            return this;
        }
    }

    /** What is READ: a SORT, or a HYPHEN (call -1), or a CALL. */
    private record Item(Sort sort, int call) {
        boolean isHyphen() {
            return sort == null && call < 0;
        }

        boolean isSpace() {
            return sort != null && sort.kind == 2;
        }
    }

    private static final class Line {
        final List<Sort> sorts = new ArrayList<>();
        final List<Integer> calls = new ArrayList<>();
        Fount fount;
        int paragraph;
        int order;
        int together;
        int measure;
        int height;
        int wide;
        int how;
        boolean isHyphen;
        boolean isLast;

        boolean isLastOfMore() {
            return together > 1 && order == together - 1;
        }

        boolean isFirstOfMore() {
            return together > 1 && order == 0;
        }
    }

    private record Page(int first, int lines, int height, int how, List<Integer> notes) {
    }

    private record Forme(int number, List<Line> lines) {
    }

    /** What ACTS change. */
    private final class Floor {
        final int[][][] boxes = new int[4][5][24];
        Sort[] stick = new Sort[10];
        Sort[] tray = null;
        final List<Line> lines = new ArrayList<>();
        final List<Page> pages = new ArrayList<>();
        final List<Forme> formes = new ArrayList<>();

        Floor copy() {
            Floor other = new Floor();
            for (int f = 0; f < 4; f++) {
                for (int kind = 0; kind < 5; kind++) {
                    other.boxes[f][kind] = boxes[f][kind].clone();
                }
            }
            other.stick = copies(stick);
            other.tray = tray == null ? null : copies(tray);
            other.lines.addAll(lines);
            other.pages.addAll(pages);
            other.formes.addAll(formes);
            return other;
        }

        /** A clone has the type of its row. */
        private Sort[] copies(Sort[] row) {
            Sort[] other = row.clone();
            for (int i = 0; i < row.length; i++) {
                other[i] = row[i] == null ? null : row[i].copy();
            }
            return other;
        }

        void takeOne(Sort sort) {
            int[] row = boxes[sort.fount.number][sort.kind];
            if (row[sort.box] == 0) {
                throw new Answer(-27);
            }
            row[sort.box]--;
        }

        int giveBack(Sort sort) {
            for (Sort part : sort.parts()) {
                boxes[part.fount.number][part.kind][part.box]++;
            }
            return sort.parts().size();
        }

        int giveBack(List<Line> some) {
            int sorts = 0;
            for (Line line : some) {
                for (Sort sort : line.sorts) {
                    sorts += giveBack(sort);
                }
            }
            return sorts;
        }

        List<Sort> out() {
            List<Sort> out = new ArrayList<>();
            addParts(out, Arrays.asList(stick));
            addParts(out, tray == null ? List.of() : Arrays.asList(tray));
            for (Line line : lines) {
                addParts(out, line.sorts);
            }
            for (Forme forme : formes) {
                for (Line line : forme.lines) {
                    addParts(out, line.sorts);
                }
            }
            return out;
        }

        private void addParts(List<Sort> out, List<Sort> some) {
            for (Sort sort : some) {
                if (sort != null) {
                    out.addAll(sort.parts());
                }
            }
        }
    }

    private final class Room {
        final Fount[] founts = new Fount[4];
        final int[][] paragraphs = new int[12][];
        final int[] heights = {2, 2, 2, 2, 2, 2, 2, 2, 2, 2, 2, 2};
        int bought = 0;
        Floor floor = new Floor();
        Floor kept = null;
    }

    private final Room[] rooms = {new Room(), new Room()};
    private Room room = rooms[0];
    private final List<Integer> trace = new ArrayList<>();
    private boolean isTraced = false;
    private int faults = 0;
    private int zeros = 0;
    private int numbers = 0;
    private int status = 0;
    private long printed = 0;

    private void begin(int body) {
        if (isTraced) {
            trace.add(body);
        }
    }

    // ---- one call

    long call(String name, int... a) {
        switch (name) {
            case "line": case "sortOf": case "page": case "noteOf": case "forme":
            case "status": case "left": case "trace": case "told":
                return query(name, a);
            default:
                return act(name, a);
        }
    }

    boolean hasSort(int i) {
        return room.floor.stick[i] != null;
    }

    private static final String ACTS = " take putBack stack added tray lay pick set drop makeup lock distribute ";
    private static final String FOUNDRY = " fount width kernRow kern join ornament spacing buy ";

    private long act(String name, int[] a) {
        Floor before = room.floor.copy();
        List<Integer> traceBefore = List.copyOf(trace);
        printed = 0;
        zeros = 0;
        int answer;
        try {
            answer = perform(name, a);
            status = 0;
        } catch (Answer refusal) {
            answer = refusal.told;
            status = answer;
        } catch (NullPointerException fault) {
            status = answer = -21;
        } catch (ArrayIndexOutOfBoundsException fault) {
            status = answer = -22;
        } catch (ClassCastException fault) {
            status = answer = -23;
        } catch (NegativeArraySizeException fault) {
            status = answer = -24;
        } catch (ArrayStoreException fault) {
            status = answer = -26;
        }
        isTraced = false;
        if (status != 0) {
            room.floor = before;
            trace.clear();
            trace.addAll(traceBefore);
            faults += status < -20 ? 1 : 0;
            return name.equals("print") ? 0 : answer;
        }
        faults += zeros;
        if (ACTS.contains(" " + name + " ")) {
            room.kept = before;
        }
        if (FOUNDRY.contains(" " + name + " ")) {
            room.kept = null;
        }
        return name.equals("print") ? printed : answer;
    }

    private static void refuse(int why, boolean holds) {
        if (holds) {
            throw new Answer(why);
        }
    }

    private void full() {
        refuse(FULL, faults >= 3000);
    }

    private int perform(String name, int[] a) {
        switch (name) {
            case "room": return room(a[0]);
            case "fount": return fount(a[0], a[1]);
            case "width": return width(a[0], a[1], a[2]);
            case "kernRow": return kernRow(a[0], a[1], a[2]);
            case "kern": return kern(a[0], a[1], a[2], a[3]);
            case "join": return join(a[0], a[1], a[2], a[3], a[4]);
            case "ornament": return ornament(a[0], a[1], a[2]);
            case "spacing": return spacing(a[0], a[1], a[2], a[3], a[4]);
            case "buy": return buy(a[0], a[1], a[2], a[3]);
            case "text": return text(a[0], a[1]);
            case "sign": return sign(a[0], a[1], a[2]);
            case "note": return note(a[0], a[1]);
            case "take": return take(a[0], a[1], a[2], a[3]);
            case "putBack": return putBack(a[0]);
            case "stack": return stack(a[0], a[1]);
            case "ask": return ask(a[0], a[1]);
            case "added": return added(a[0], a[1]);
            case "tray": return tray(a[0], a[1]);
            case "lay": return lay(a[0], a[1]);
            case "pick": return pick(a[0], a[1]);
            case "set": return set(a[0], a[1], a[2]);
            case "drop": return drop(a[0]);
            case "makeup": return makeup(a[0]);
            case "lock": return lock();
            case "print": return print(a[0]);
            case "distribute": return distribute(a[0]);
            case "undo": return undo();
            default: throw new IllegalArgumentException(name);
        }
    }

    private static boolean no(int n, int least, int most) {
        return n < least || n > most;
    }

    private int room(int r) {
        refuse(BAD, no(r, 0, 1));
        int before = room == rooms[0] ? 0 : 1;
        room = rooms[r];
        return before;
    }

    // ---- founts

    private void mayChange(int f, boolean isBad) {
        refuse(BAD, no(f, 0, 3) || isBad);
        for (Sort sort : room.floor.out()) {
            refuse(STATE, sort.fount.number == f);
        }
        full();
    }

    private int fount(int f, int n) {
        refuse(BAD, no(f, 0, 3) || n > 24);
        refuse(STATE, room.founts[f] != null);
        full();
        room.founts[f] = new Fount(f, n);
        return 1;
    }

    private int width(int f, int a, int w) {
        mayChange(f, no(w, 1, 30));
        int before = room.founts[f].widths[a];
        room.founts[f].widths[a] = w;
        return before;
    }

    private int kernRow(int f, int a, int n) {
        mayChange(f, n > 24);
        int[][] kerns = room.founts[f].kerns;
        int[] row = n == -1 ? null : new int[n];
        kerns[a] = row;
        return 1;
    }

    private int kern(int f, int a, int b, int k) {
        mayChange(f, no(k, -9, 9));
        room.founts[f].kerns[a][b] = k;
        return 1;
    }

    private int join(int f, int a, int b, int c, int w) {
        mayChange(f, no(w, 1, 60));
        Fount fount = room.founts[f];
        refuse(FULL, fount != null && fount.joins.size() == 6);
        int[] letters = c == -1 ? new int[] {a, b} : new int[] {a, b, c};
        for (int letter : letters) {
            lookUp(fount, letter);
        }
        fount.joins.add(new Join(letters, w));
        return fount.joins.size() - 1;
    }

    private static int lookUp(Fount fount, int letter) {
        return fount.widths[letter];
    }

    private int ornament(int f, int k, int w) {
        mayChange(f, no(w, 1, 30));
        int before = room.founts[f].ornaments[k];
        room.founts[f].ornaments[k] = w;
        return before;
    }

    private int spacing(int f, int space, int stretch, int shrink, int height) {
        mayChange(f, no(space, 1, 9) || no(stretch, 0, 9) || no(shrink, 0, space) || no(height, 1, 3));
        Fount fount = room.founts[f];
        fount.space = space;
        fount.stretch = stretch;
        fount.shrink = shrink;
        fount.height = height;
        return 1;
    }

    /** A SORT as it lies in a BOX, or what the machine has against looking for it. */
    private Sort inBox(int f, int kind, int code) {
        Fount fount = room.founts[f];
        switch (kind) {
            case 0: lookUp(fount, code); return new Letter(fount, code);
            case 1: {
                int[] joins = new int[fount.joins.size()];
                joins[code] = 1;
                return new Joined(fount, code);
            }
            case 2: fount.space += 0; return new Space(fount, 2);
            case 3: fount.space += 0; return new Rule(fount);
            default: fount.ornaments[code] += 0; return new Ornament(fount, code);
        }
    }

    private int buy(int f, int kind, int code, int n) {
        refuse(BAD, no(f, 0, 3) || no(kind, 0, 4) || no(n, 0, 200));
        refuse(FULL, room.bought + n > 4000);
        full();
        Sort sort = inBox(f, kind, code);
        room.bought += n;
        return room.floor.boxes[f][kind][sort.box] += n;
    }

    // ---- text

    private int text(int p, int n) {
        refuse(BAD, no(p, 0, 11) || n > 40);
        full();
        room.paragraphs[p] = n == -1 ? null : new int[n];
        return 1;
    }

    private int sign(int p, int i, int c) {
        refuse(BAD, no(p, 0, 11) || no(c, 0, 127));
        full();
        room.paragraphs[p][i] = c;
        return 1;
    }

    private int note(int p, int h) {
        refuse(BAD, no(p, 0, 11) || no(h, 0, 9));
        int before = room.heights[p];
        room.heights[p] = h;
        return before;
    }

    // ---- the stick, the tray

    private int take(int i, int f, int kind, int code) {
        refuse(BAD, no(i, 0, 9) || no(f, 0, 3) || no(kind, 0, 4));
        refuse(STATE, room.floor.stick[i] != null);
        full();
        Sort sort = inBox(f, kind, code);
        room.floor.takeOne(sort);
        room.floor.stick[i] = sort;
        return 1;
    }

    private int putBack(int i) {
        refuse(BAD, no(i, 0, 9));
        full();
        Sort sort = room.floor.stick[i];
        room.floor.stick[i] = null;
        return room.floor.giveBack(sort);
    }

    private int stack(int i, int j) {
        refuse(BAD, no(i, 0, 9) || no(j, 0, 9) || i == j);
        full();
        Letter first = (Letter) room.floor.stick[i];
        Letter second = (Letter) room.floor.stick[j];
        first.code();
        second.code();
        room.floor.stick[i] = new Stack(first, second);
        room.floor.stick[j] = null;
        return 1;
    }

    private int ask(int i, int what) {
        refuse(BAD, no(i, 0, 9) || no(what, 0, 6));
        full();
        Sort sort = room.floor.stick[i];
        trace.clear();
        isTraced = true;
        switch (what) {
            case 0: return sort.wide();
            case 1: return ((Space) sort).share();
            case 2: return ((Inked) sort).lent();
            case 3: return ((Joined) sort).box;
            case 4: return sort.kind;
            case 5: return sort.fount.number;
            default: return sort.code();
        }
    }

    private int added(int i, int n) {
        refuse(BAD, no(i, 0, 9) || no(n, 0, 99));
        full();
        ((Space) room.floor.stick[i]).added = n;
        return 1;
    }

    private int tray(int type, int n) {
        refuse(BAD, no(type, 0, 2) || n > 8);
        if (room.floor.tray != null) {
            for (Sort sort : room.floor.tray) {
                refuse(STATE, sort != null);
            }
        }
        full();
        room.floor.tray = type == 0 ? new Sort[n] : type == 1 ? new Letter[n] : new Space[n];
        return 1;
    }

    private int lay(int i, int k) {
        refuse(BAD, no(i, 0, 9));
        Sort[] tray = room.floor.tray;
        refuse(STATE, tray != null && k >= 0 && k < tray.length && tray[k] != null);
        full();
        tray[k] = room.floor.stick[i];
        room.floor.stick[i] = null;
        return 1;
    }

    private int pick(int k, int i) {
        refuse(BAD, no(i, 0, 9));
        refuse(STATE, room.floor.stick[i] != null);
        full();
        room.floor.stick[i] = room.floor.tray[k];
        room.floor.tray[k] = null;
        return 1;
    }

    // ---- lines

    private int set(int p, int f, int m) {
        refuse(BAD, no(p, 0, 11) || no(f, 0, 3) || m > 300);
        refuse(FULL, room.floor.lines.size() >= 50);
        full();
        int[] signs = room.paragraphs[p].clone();
        Fount fount = room.founts[f];
        fount.space += 0;
        int[] measured = new int[m];
        List<Item> items = read(signs, fount);
        List<Line> lines = new ArrayList<>();
        int from = 0;
        for (int end : best(items, fount, measured.length)) {
            lines.add(line(items, fount, measured.length, from, end));
            from = end;
        }
        for (Line line : lines) {
            for (Sort sort : line.sorts) {
                for (Sort part : sort.parts()) {
                    room.floor.takeOne(part);
                }
            }
        }
        for (Line line : lines) {
            line.paragraph = p;
            line.order = lines.indexOf(line);
            line.together = lines.size();
            justify(line);
        }
        room.floor.lines.addAll(lines);
        room.floor.pages.clear();
        return lines.size();
    }

    private List<Item> read(int[] signs, Fount fount) {
        List<Item> items = new ArrayList<>();
        int at = 0;
        while (at < signs.length) {
            int sign = signs[at];
            Join join = joinAt(signs, at, fount);
            int step = 1;
            if (sign == 45) {
                lookUp(fount, 0);
                items.add(new Item(null, -1));
            } else if (sign >= 64 && sign <= 75) {
                items.add(new Item(null, sign - 64));
            } else if (sign == 94) {
                Letter first = (Letter) alone(signs[at + 1], fount);
                Letter second = (Letter) alone(signs[at + 2], fount);
                items.add(new Item(new Stack(first, second), 0));
                step = 3;
            } else if (join != null) {
                items.add(new Item(new Joined(fount, fount.joins.indexOf(join)), 0));
                step = join.letters.length;
            } else {
                items.add(new Item(alone(sign, fount), 0));
            }
            at += step;
        }
        return items;
    }

    private Sort alone(int sign, Fount fount) {
        if (sign == 32) {
            return new Space(fount, 2);
        }
        if (sign == 61) {
            return new Rule(fount);
        }
        if (sign >= 96 && sign <= 99) {
            return new Ornament(fount, sign - 96);
        }
        lookUp(fount, sign);
        return new Letter(fount, sign);
    }

    private static Join joinAt(int[] signs, int at, Fount fount) {
        for (int length = 3; length >= 2; length--) {
            for (Join join : fount.joins) {
                if (join.letters.length == length && at + length <= signs.length
                        && Arrays.equals(join.letters, Arrays.copyOfRange(signs, at, at + length))) {
                    return join;
                }
            }
        }
        return null;
    }

    /** The ends of the LINES, the last one behind the last SIGN. */
    private List<Integer> best(List<Item> items, Fount fount, int m) {
        int n = items.size();
        List<List<Integer>> bests = new ArrayList<>();
        long[] least = new long[n + 1];
        for (int from = 0; from <= n; from++) {
            bests.add(null);
        }
        for (int from = n; from >= 0; from--) {
            List<Integer> chosen = List.of(n);
            least[from] = badness(line(items, fount, m, from, n));
            for (int end = n - 1; end > from; end--) {
                boolean mayBreak = items.get(end - 1).isSpace() || items.get(end - 1).isHyphen();
                if (mayBreak) {
                    long sum = badness(line(items, fount, m, from, end)) + least[end];
                    if (sum <= least[from]) {
                        least[from] = sum;
                        chosen = new ArrayList<>(List.of(end));
                        chosen.addAll(bests.get(end));
                    }
                }
            }
            bests.set(from, chosen);
        }
        return bests.get(0);
    }

    private Line line(List<Item> items, Fount fount, int m, int from, int end) {
        Line line = new Line();
        line.fount = fount;
        line.measure = m;
        line.height = fount.height;
        line.isLast = end == items.size();
        for (Item item : items.subList(from, end)) {
            if (item.sort != null) {
                line.sorts.add(item.sort.copy());
            } else if (item.call >= 0) {
                line.calls.add(item.call);
            }
        }
        if (!line.isLast && items.get(end - 1).isHyphen()) {
            line.isHyphen = true;
            line.sorts.add(new Letter(fount, 0));
        } else if (!line.isLast) {
            line.sorts.remove(line.sorts.size() - 1);
        }
        line.wide = wide(line);
        return line;
    }

    private static int wide(Line line) {
        int wide = 0;
        for (int k = 0; k < line.sorts.size(); k++) {
            wide += line.sorts.get(k).wide();
            if (k > 0 && line.sorts.get(k - 1) instanceof Letter first && line.sorts.get(k) instanceof Letter second) {
                wide += line.fount.kern(first, second);
            }
        }
        return wide;
    }

    private static int count(Line line, int kind) {
        int count = 0;
        for (Sort sort : line.sorts) {
            count += sort.kind == kind ? 1 : 0;
        }
        return count;
    }

    private static int shares(Line line) {
        int shares = 0;
        for (Sort sort : line.sorts) {
            shares += sort instanceof Space gap ? gap.share() : 0;
        }
        return shares;
    }

    private static boolean fits(Line line) {
        return line.measure - line.wide >= -line.fount.shrink * count(line, 2);
    }

    /** By the WIDTH without ADDED. */
    private static long badness(Line line) {
        int u = line.measure - line.wide;
        if (!fits(line)) {
            return 10000000L - u;
        }
        if (line.isLast) {
            return u < 0 ? u * u : 0;
        }
        return u * u + (u > line.fount.stretch * shares(line) ? 1000 : 0) + (line.isHyphen ? 50 : 0);
    }

    private void justify(Line line) {
        int u = line.measure - line.wide;
        int spaces = count(line, 2);
        int s = shares(line);
        if (!fits(line)) {
            line.how = 2;
            for (Sort sort : line.sorts) {
                if (sort.kind == 2) {
                    ((Space) sort).added = -line.fount.shrink;
                }
            }
        } else if (u < 0) {
            give(line, u, spaces, false);
        } else if (u > 0 && !line.isLast) {
            try {
                int each = u / s;
                line.how = each >= 0 && u > line.fount.stretch * s ? 1 : 0;
                give(line, u, s, true);
            } catch (ArithmeticException zero) {
                line.how = 3;
                zeros++;
            }
        }
    }

    private static void give(Line line, int u, int parts, boolean isToAll) {
        int left = u;
        for (Sort sort : line.sorts) {
            if (sort instanceof Space gap && (isToAll || gap.kind == 2)) {
                gap.added = u * (isToAll ? gap.share() : 1) / parts;
                left -= gap.added;
            }
        }
        int one = left < 0 ? -1 : 1;
        for (Sort sort : line.sorts) {
            if (left != 0 && sort instanceof Space gap && (isToAll || gap.kind == 2)) {
                gap.added += one;
                left -= one;
            }
        }
    }

    private int drop(int l) {
        List<Line> lines = room.floor.lines;
        refuse(BAD, no(l, 0, lines.size() - 1));
        List<Line> dropped = lines.subList(l, lines.size());
        int sorts = room.floor.giveBack(dropped);
        dropped.clear();
        room.floor.pages.clear();
        return sorts;
    }

    // ---- pages, formes

    private int makeup(int h) {
        refuse(BAD, no(h, 1, 60));
        List<Line> lines = room.floor.lines;
        refuse(STATE, lines.isEmpty());
        room.floor.pages.clear();
        int first = 0;
        for (int count : lines.size() <= 40 ? weighed(h) : filled(h)) {
            room.floor.pages.add(page(first, count, h));
            first += count;
        }
        return room.floor.pages.size();
    }

    private Page page(int first, int count, int h) {
        List<Line> lines = room.floor.lines.subList(first, first + count);
        List<Integer> notes = new ArrayList<>();
        int height = 0;
        for (Line line : lines) {
            height += line.height;
            for (Integer call : line.calls) {
                if (!notes.contains(call)) {
                    notes.add(call);
                    height += room.heights[call];
                }
            }
        }
        int how = lines.get(0).isLastOfMore() ? 1 : 0;
        how += lines.get(count - 1).isFirstOfMore() ? 2 : 0;
        how += height > h ? 4 : 0;
        return new Page(first, count, height, how, notes);
    }

    private List<Integer> weighed(int h) {
        int n = room.floor.lines.size();
        List<List<Integer>> bests = new ArrayList<>();
        long[] least = new long[n + 1];
        for (int first = 0; first <= n; first++) {
            bests.add(List.of());
        }
        for (int first = n - 1; first >= 0; first--) {
            least[first] = Long.MAX_VALUE;
            for (int count = n - first; count >= 1; count--) {
                Page page = page(first, count, h);
                boolean isBeyond = (page.how & 4) != 0;
                if (isBeyond && count > 1) {
                    continue;
                }
                long badness = isBeyond ? 100000000L + page.height - h
                        : first + count == n ? 0 : (long) (h - page.height) * (h - page.height);
                badness += 1000000L * Integer.bitCount(page.how & 3) + least[first + count];
                if (badness <= least[first]) {
                    least[first] = badness;
                    List<Integer> counts = new ArrayList<>(List.of(count));
                    counts.addAll(bests.get(first + count));
                    bests.set(first, counts);
                }
            }
        }
        return bests.get(0);
    }

    private List<Integer> filled(int h) {
        List<Line> lines = room.floor.lines;
        List<Integer> counts = new ArrayList<>();
        int first = 0;
        while (first < lines.size()) {
            int count = 1;
            while (first + count < lines.size() && (page(first, count + 1, h).how & 4) == 0) {
                count++;
            }
            int next = first + count;
            boolean isOrphan = (page(first, count, h).how & 2) != 0;
            boolean leavesWidow = next < lines.size() && (page(next, 1, h).how & 1) != 0;
            count -= count >= 2 && (isOrphan || leavesWidow) ? 1 : 0;
            counts.add(count);
            first += count;
        }
        return counts;
    }

    private int lock() {
        Floor floor = room.floor;
        int pages = floor.pages.size();
        refuse(STATE, pages == 0);
        refuse(FULL, floor.formes.size() + pages > 12 || numbers + pages > 400);
        int first = numbers + 1;
        for (Page page : floor.pages) {
            numbers++;
            List<Line> lines = List.copyOf(floor.lines.subList(page.first, page.first + page.lines));
            floor.formes.add(new Forme(numbers, lines));
        }
        floor.lines.clear();
        floor.pages.clear();
        return first;
    }

    private Forme formeOf(int number) {
        for (Forme forme : room.floor.formes) {
            if (forme.number == number) {
                return forme;
            }
        }
        throw new Answer(BAD);
    }

    private int print(int number) {
        Forme forme = formeOf(number);
        trace.clear();
        isTraced = true;
        printed = 17;
        for (Line line : forme.lines) {
            for (Sort sort : line.sorts) {
                printed = 31 * printed + (sort instanceof Inked inked ? inked.lent() : sort.wide());
            }
        }
        return 0;
    }

    private int distribute(int number) {
        Forme forme = formeOf(number);
        room.floor.formes.remove(forme);
        return room.floor.giveBack(forme.lines);
    }

    private int undo() {
        refuse(STATE, room.kept == null);
        room.floor = room.kept;
        room.kept = null;
        return 1;
    }

    // ---- what is told

    private int query(String name, int[] a) {
        Floor floor = room.floor;
        switch (name) {
            case "line": return no(a[0], 0, floor.lines.size() - 1) ? BAD : line(floor.lines.get(a[0]), a[1]);
            case "sortOf": return no(a[0], 0, floor.lines.size() - 1) ? BAD
                    : sortOf(floor.lines.get(a[0]).sorts, a[1], a[2]);
            case "page": return no(a[0], 0, floor.pages.size() - 1) ? BAD : page(floor.pages.get(a[0]), a[1]);
            case "noteOf": return no(a[0], 0, floor.pages.size() - 1) ? BAD
                    : orNone(floor.pages.get(a[0]).notes, a[1]);
            case "forme": return no(a[0], 0, floor.formes.size() - 1) ? NONE : floor.formes.get(a[0]).number;
            case "status": return status;
            case "left": return left(a[0], a[1], a[2]);
            case "trace": return a[0] >= 60 ? NONE : orNone(trace, a[0]);
            default: return told(a[0]);
        }
    }

    private static int orNone(List<Integer> row, int i) {
        return no(i, 0, row.size() - 1) ? NONE : row.get(i);
    }

    private static int line(Line line, int what) {
        int wide = line.wide;
        for (Sort sort : line.sorts) {
            wide += sort instanceof Space gap ? gap.added : 0;
        }
        int[] told = {line.paragraph, line.fount.number, line.order, line.sorts.size(), wide, line.measure,
            line.how, line.isHyphen ? 1 : 0, line.order == line.together - 1 ? 1 : 0, (int) badness(line)};
        return no(what, 0, told.length - 1) ? BAD : told[what];
    }

    private static int sortOf(List<Sort> sorts, int k, int what) {
        if (no(k, 0, sorts.size() - 1) || no(what, 0, 2)) {
            return BAD;
        }
        Sort sort = sorts.get(k);
        return what == 0 ? sort.kind : what == 1 ? sort.code() : sort instanceof Space gap ? gap.added : 0;
    }

    private static int page(Page page, int what) {
        int[] told = {page.first, page.lines, page.height, page.how, page.notes.size()};
        return no(what, 0, told.length - 1) ? BAD : told[what];
    }

    private int left(int f, int kind, int code) {
        if (no(f, 0, 3) || no(kind, 0, 4)) {
            return BAD;
        }
        Fount fount = room.founts[f];
        if (fount == null) {
            return NONE;
        }
        if (kind == 2 || kind == 3) {
            return room.floor.boxes[f][kind][0];
        }
        int boxes = kind == 0 ? fount.widths.length : kind == 1 ? fount.joins.size() : 4;
        return no(code, 0, boxes - 1) ? NONE : room.floor.boxes[f][kind][code];
    }

    private int told(int what) {
        Floor floor = room.floor;
        switch (what) {
            case 0: return room == rooms[0] ? 0 : 1;
            case 1: return faults;
            case 2: return room.bought;
            case 3: return floor.out().size();
            case 4: return floor.lines.size();
            case 5: return floor.pages.size();
            case 6: return floor.formes.size();
            case 7: return numbers;
            case 8: return trace.size();
            case 9: return room.kept == null ? 0 : 1;
            default: return BAD;
        }
    }
}
