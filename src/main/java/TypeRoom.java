import java.util.Arrays;

/**
 * A compositor's room: founts and cases, a stick and a tray, paragraphs set as lines, lines made up
 * as pages, pages locked as formes. What each call promises stands in DOC.md.
 */
public final class TypeRoom {
    public static final int BAD = -1, STATE = -2, FULL = -3, NONE = -4;

    private static final int NULL = -21, INDEX = -22, CAST = -23, SIZE = -24, STORE = -26, EMPTY = -27;

    private static final int LETTER = 0, JOINED = 1, SPACE = 2, RULE = 3, ORNAMENT = 4, STACK = 5;
    /** What reading finds besides SORTS. */
    private static final int HYPHEN = 6, CALL = 7;

    private static final int ROOMS = 2, FOUNTS = 4, LETTERS = 24, JOINS = 6, ORNAMENTS = 4;
    private static final int JOIN_BOXES = LETTERS, SPACE_BOX = JOIN_BOXES + JOINS, RULE_BOX = SPACE_BOX + 1;
    private static final int ORNAMENT_BOXES = RULE_BOX + 1, CASE_BOXES = ORNAMENT_BOXES + ORNAMENTS;

    private static final int PARAGRAPHS = 12, SIGNS = 40, LAST_SIGN = 127, NOTE_HEIGHT = 2;
    private static final int STICK_PLACES = 10, TRAY_PLACES = 8;
    private static final int ALL_SORTS = 0, LETTERS_ONLY = 1, GAPS_ONLY = 2;
    private static final int FULL_GALLEY = 50;
    /** One paragraph more, of as many LINES as SIGNS, may come when one LINE is lacking to a full GALLEY. */
    private static final int GALLEY_LINES = FULL_GALLEY - 1 + SIGNS;
    private static final int FORMES = 12, MOST_NUMBERS = 400, MOST_BOUGHT = 4000, MOST_FAULTS = 3000;

    private static final int PLAIN = 0, LOOSE = 1, TIGHT = 2, NOT_JUSTIFIED = 3;
    private static final int WIDOW = 1, ORPHAN = 2, BEYOND = 4;

    private final Room[] rooms = new Room[ROOMS];
    private final Trace trace = new Trace();
    private final Reading reading = new Reading();
    private final Composer composer = new Composer();
    private final Pager pager = new Pager();
    private Room here;
    private int atHand = 0;
    private int faults = 0;
    private int numbers = 0;
    private int status = 0;

    public TypeRoom() {
        for (int r = 0; r < ROOMS; r++) {
            rooms[r] = new Room();
        }
        here = rooms[0];
    }

    public int room(int r) {
        if (isOutside(r, 0, ROOMS - 1)) {
            return refuse(BAD);
        }
        int before = atHand;
        atHand = r;
        here = rooms[r];
        return done(before);
    }

    // ---- founts

    public int fount(int f, int n) {
        if (isNoFount(f) || n > LETTERS) {
            return refuse(BAD);
        }
        if (here.founts[f] != null) {
            return refuse(STATE);
        }
        if (isFullOfFaults()) {
            return refuse(FULL);
        }
        if (n < 0) {
            return meet(SIZE);
        }
        here.founts[f] = new Fount(f, n);
        return changed(1);
    }

    public int width(int f, int a, int w) {
        int why = whyNotChange(f, isOutside(w, 1, 30));
        if (why != 0) {
            return refuse(why);
        }
        Fount fount = here.founts[f];
        if (fount == null) {
            return meet(NULL);
        }
        if (!fount.hasLetter(a)) {
            return meet(INDEX);
        }
        int before = fount.widths[a];
        fount.widths[a] = w;
        return changed(before);
    }

    public int kernRow(int f, int a, int n) {
        int why = whyNotChange(f, n > LETTERS);
        if (why != 0) {
            return refuse(why);
        }
        Fount fount = here.founts[f];
        if (fount == null) {
            return meet(NULL);
        }
        if (n < -1) {
            return meet(SIZE);
        }
        if (!fount.hasLetter(a)) {
            return meet(INDEX);
        }
        fount.kerns[a] = n < 0 ? null : new int[n];
        return changed(1);
    }

    public int kern(int f, int a, int b, int k) {
        int why = whyNotChange(f, isOutside(k, -9, 9));
        if (why != 0) {
            return refuse(why);
        }
        Fount fount = here.founts[f];
        if (fount == null) {
            return meet(NULL);
        }
        if (!fount.hasLetter(a)) {
            return meet(INDEX);
        }
        int[] row = fount.kerns[a];
        if (row == null) {
            return meet(NULL);
        }
        if (isOutside(b, 0, row.length - 1)) {
            return meet(INDEX);
        }
        row[b] = k;
        return changed(1);
    }

    public int join(int f, int a, int b, int c, int w) {
        int why = whyNotChange(f, isOutside(w, 1, 60));
        if (why != 0) {
            return refuse(why);
        }
        Fount fount = here.founts[f];
        if (fount == null) {
            return meet(NULL);
        }
        if (fount.joins >= JOINS) {
            return refuse(FULL);
        }
        if (!fount.hasLetter(a) || !fount.hasLetter(b) || (c != -1 && !fount.hasLetter(c))) {
            return meet(INDEX);
        }
        return changed(fount.addJoin(a, b, c, w));
    }

    public int ornament(int f, int k, int w) {
        int why = whyNotChange(f, isOutside(w, 1, 30));
        if (why != 0) {
            return refuse(why);
        }
        Fount fount = here.founts[f];
        if (fount == null) {
            return meet(NULL);
        }
        if (isOutside(k, 0, ORNAMENTS - 1)) {
            return meet(INDEX);
        }
        int before = fount.ornaments[k];
        fount.ornaments[k] = w;
        return changed(before);
    }

    public int spacing(int f, int space, int stretch, int shrink, int height) {
        boolean isBad = isOutside(space, 1, 9) || isOutside(stretch, 0, 9)
                || isOutside(shrink, 0, space) || isOutside(height, 1, 3);
        int why = whyNotChange(f, isBad);
        if (why != 0) {
            return refuse(why);
        }
        Fount fount = here.founts[f];
        if (fount == null) {
            return meet(NULL);
        }
        fount.space = space;
        fount.stretch = stretch;
        fount.shrink = shrink;
        fount.height = height;
        return changed(1);
    }

    public int buy(int f, int kind, int code, int n) {
        if (isNoFount(f) || isNotInCase(kind) || isOutside(n, 0, 200)) {
            return refuse(BAD);
        }
        if (here.bought() + n > MOST_BOUGHT || isFullOfFaults()) {
            return refuse(FULL);
        }
        int box = here.boxOf(f, kind, code);
        if (box < 0) {
            return meet(box);
        }
        here.boughtOf[f] += n;
        here.floor.boxes[box] += n;
        return changed(here.floor.boxes[box]);
    }

    // ---- text

    public int text(int p, int n) {
        if (isNoParagraph(p) || n > SIGNS) {
            return refuse(BAD);
        }
        if (isFullOfFaults()) {
            return refuse(FULL);
        }
        if (n < -1) {
            return meet(SIZE);
        }
        here.paragraphs[p] = n < 0 ? null : new int[n];
        return done(1);
    }

    public int sign(int p, int i, int c) {
        if (isNoParagraph(p) || isOutside(c, 0, LAST_SIGN)) {
            return refuse(BAD);
        }
        if (isFullOfFaults()) {
            return refuse(FULL);
        }
        int[] signs = here.paragraphs[p];
        if (signs == null) {
            return meet(NULL);
        }
        if (isOutside(i, 0, signs.length - 1)) {
            return meet(INDEX);
        }
        signs[i] = c;
        return done(1);
    }

    public int note(int p, int h) {
        if (isNoParagraph(p) || isOutside(h, 0, 9)) {
            return refuse(BAD);
        }
        int before = here.noteHeights[p];
        here.noteHeights[p] = h;
        return done(before);
    }

    // ---- the stick, the tray

    public int take(int i, int f, int kind, int code) {
        if (isNoPlace(i) || isNoFount(f) || isNotInCase(kind)) {
            return refuse(BAD);
        }
        if (here.floor.stick[i] != null) {
            return refuse(STATE);
        }
        if (isFullOfFaults()) {
            return refuse(FULL);
        }
        Fount fount = here.founts[f];
        int box = here.boxOf(f, kind, code);
        if (fount == null || box < 0) {
            return meet(box);
        }
        if (here.floor.boxes[box] <= 0) {
            return meet(EMPTY);
        }
        here.keep();
        here.floor.boxes[box]--;
        boolean isGap = kind == SPACE || kind == RULE;
        here.floor.stick[i] = new Sort(kind, fount, isGap ? 0 : code, 0);
        return done(1);
    }

    public int putBack(int i) {
        if (isNoPlace(i)) {
            return refuse(BAD);
        }
        if (isFullOfFaults()) {
            return refuse(FULL);
        }
        Sort sort = here.floor.stick[i];
        if (sort == null) {
            return meet(NULL);
        }
        here.keep();
        here.floor.stick[i] = null;
        return done(sort.move(here.floor.boxes, 1));
    }

    public int stack(int i, int j) {
        if (isNoPlace(i) || isNoPlace(j) || i == j) {
            return refuse(BAD);
        }
        if (isFullOfFaults()) {
            return refuse(FULL);
        }
        Sort first = here.floor.stick[i];
        Sort second = here.floor.stick[j];
        if ((first != null && !first.isLetter()) || (second != null && !second.isLetter())) {
            return meet(CAST);
        }
        if (first == null || second == null) {
            return meet(NULL);
        }
        here.keep();
        here.floor.stick[i] = new Sort(first, second);
        here.floor.stick[j] = null;
        return done(1);
    }

    public int ask(int i, int what) {
        if (isNoPlace(i) || isOutside(what, 0, 6)) {
            return refuse(BAD);
        }
        if (isFullOfFaults()) {
            return refuse(FULL);
        }
        Sort sort = here.floor.stick[i];
        if (sort == null) {
            return meet(NULL);
        }
        if (!sort.answers(what)) {
            return meet(CAST);
        }
        trace.clear();
        return done(answerOf(sort, what));
    }

    public int added(int i, int n) {
        if (isNoPlace(i) || isOutside(n, 0, 99)) {
            return refuse(BAD);
        }
        if (isFullOfFaults()) {
            return refuse(FULL);
        }
        Sort sort = here.floor.stick[i];
        if (sort == null) {
            return meet(NULL);
        }
        if (!sort.isGap()) {
            return meet(CAST);
        }
        here.keep();
        here.floor.stick[i] = new Sort(sort.kind, sort.fount, sort.code, n);
        return done(1);
    }

    public int tray(int type, int n) {
        if (isOutside(type, ALL_SORTS, GAPS_ONLY) || n > TRAY_PLACES) {
            return refuse(BAD);
        }
        if (here.floor.hasSortInTray()) {
            return refuse(STATE);
        }
        if (isFullOfFaults()) {
            return refuse(FULL);
        }
        if (n < 0) {
            return meet(SIZE);
        }
        here.keep();
        here.floor.trayType = type;
        here.floor.trayPlaces = n;
        return done(1);
    }

    public int lay(int i, int k) {
        if (isNoPlace(i)) {
            return refuse(BAD);
        }
        Floor floor = here.floor;
        if (floor.hasTrayPlace(k) && floor.tray[k] != null) {
            return refuse(STATE);
        }
        if (isFullOfFaults()) {
            return refuse(FULL);
        }
        if (floor.trayPlaces < 0) {
            return meet(NULL);
        }
        if (!floor.hasTrayPlace(k)) {
            return meet(INDEX);
        }
        Sort sort = floor.stick[i];
        if (sort != null && !sort.isOfType(floor.trayType)) {
            return meet(STORE);
        }
        here.keep();
        floor.tray[k] = sort;
        floor.stick[i] = null;
        return done(1);
    }

    public int pick(int k, int i) {
        if (isNoPlace(i)) {
            return refuse(BAD);
        }
        Floor floor = here.floor;
        if (floor.stick[i] != null) {
            return refuse(STATE);
        }
        if (isFullOfFaults()) {
            return refuse(FULL);
        }
        if (floor.trayPlaces < 0) {
            return meet(NULL);
        }
        if (!floor.hasTrayPlace(k)) {
            return meet(INDEX);
        }
        here.keep();
        floor.stick[i] = floor.tray[k];
        floor.tray[k] = null;
        return done(1);
    }

    // ---- lines

    public int set(int p, int f, int m) {
        if (isNoParagraph(p) || isNoFount(f) || m > 300) {
            return refuse(BAD);
        }
        if (here.floor.lineCount >= FULL_GALLEY || isFullOfFaults()) {
            return refuse(FULL);
        }
        int[] signs = here.paragraphs[p];
        Fount fount = here.founts[f];
        if (signs == null || fount == null) {
            return meet(NULL);
        }
        if (m < 0) {
            return meet(SIZE);
        }
        int fault = reading.readAll(signs, fount);
        if (fault != 0) {
            return meet(fault);
        }
        composer.compose(reading, p, m);
        if (!composer.findsSortsIn(here.floor.boxes)) {
            return meet(EMPTY);
        }
        here.keep();
        here.floor.addLines(composer.lines, composer.lineCount);
        faults += composer.zeros;
        return done(composer.lineCount);
    }

    public int drop(int l) {
        if (isNoLine(l)) {
            return refuse(BAD);
        }
        here.keep();
        return done(here.floor.removeLinesFrom(l));
    }

    public int line(int l, int what) {
        return isNoLine(l) ? BAD : here.floor.lines[l].tell(what);
    }

    public int sortOf(int l, int k, int what) {
        if (isNoLine(l)) {
            return BAD;
        }
        Sort[] sorts = here.floor.lines[l].sorts;
        if (isOutside(k, 0, sorts.length - 1)) {
            return BAD;
        }
        switch (what) {
            case 0: return sorts[k].kind;
            case 1: return sorts[k].codeTold();
            case 2: return sorts[k].added;
            default: return BAD;
        }
    }

    // ---- pages, formes

    public int makeup(int h) {
        if (isOutside(h, 1, 60)) {
            return refuse(BAD);
        }
        if (here.floor.lineCount == 0) {
            return refuse(STATE);
        }
        here.keep();
        pager.makePages(here.floor, here.noteHeights, h);
        return done(here.floor.pageCount);
    }

    public int page(int k, int what) {
        return isNoPage(k) ? BAD : here.floor.pages[k].tell(what);
    }

    public int noteOf(int k, int i) {
        if (isNoPage(k)) {
            return BAD;
        }
        int[] notes = here.floor.pages[k].notes;
        return isOutside(i, 0, notes.length - 1) ? NONE : notes[i];
    }

    public int lock() {
        Floor floor = here.floor;
        int pages = floor.pageCount;
        if (pages == 0) {
            return refuse(STATE);
        }
        if (floor.formeCount + pages > FORMES || numbers + pages > MOST_NUMBERS) {
            return refuse(FULL);
        }
        here.keep();
        floor.lockPages(numbers + 1);
        numbers += pages;
        return done(numbers - pages + 1);
    }

    public int forme(int i) {
        return isOutside(i, 0, here.floor.formeCount - 1) ? NONE : here.floor.formes[i].number;
    }

    public long print(int number) {
        int at = here.floor.placeOfForme(number);
        if (at < 0) {
            refuse(BAD);
            return 0;
        }
        trace.clear();
        done(0);
        return here.floor.formes[at].impression(trace);
    }

    public int distribute(int number) {
        int at = here.floor.placeOfForme(number);
        if (at < 0) {
            return refuse(BAD);
        }
        here.keep();
        return done(here.floor.removeForme(at));
    }

    public int undo() {
        if (!here.hasKept) {
            return refuse(STATE);
        }
        here.takeBack();
        return done(1);
    }

    // ---- what is told

    public int status() {
        return status;
    }

    public int left(int f, int kind, int code) {
        if (isNoFount(f) || isNotInCase(kind)) {
            return BAD;
        }
        int box = here.boxOf(f, kind, code);
        return box < 0 ? NONE : here.floor.boxes[box];
    }

    public int trace(int i) {
        return trace.bodyAt(i);
    }

    public int told(int what) {
        switch (what) {
            case 0: return atHand;
            case 1: return faults;
            case 2: return here.bought();
            case 3: return here.sortsOut();
            case 4: return here.floor.lineCount;
            case 5: return here.floor.pageCount;
            case 6: return here.floor.formeCount;
            case 7: return numbers;
            case 8: return trace.count;
            case 9: return here.hasKept ? 1 : 0;
            default: return BAD;
        }
    }

    // ---- what the calls have in common

    private int refuse(int why) {
        status = why;
        return why;
    }

    private int meet(int fault) {
        faults++;
        status = fault;
        return fault;
    }

    private int done(int answer) {
        status = 0;
        return answer;
    }

    /** What was kept of BOXES would no longer fit a FOUNT or CASE that has changed. */
    private int changed(int answer) {
        here.hasKept = false;
        return done(answer);
    }

    private int whyNotChange(int f, boolean isBad) {
        if (isBad || isNoFount(f)) {
            return BAD;
        }
        if (here.sortsOutOf(f) > 0) {
            return STATE;
        }
        return isFullOfFaults() ? FULL : 0;
    }

    private int answerOf(Sort sort, int what) {
        switch (what) {
            case 0: return sort.wide(trace);
            case 1: return sort.share(trace);
            case 2: return sort.ink(trace);
            case 3: return sort.code;
            case 4: return sort.kind;
            case 5: return sort.fount.number;
            default: return sort.codeTold();
        }
    }

    private boolean isFullOfFaults() {
        return faults >= MOST_FAULTS;
    }

    private boolean isNoLine(int l) {
        return isOutside(l, 0, here.floor.lineCount - 1);
    }

    private boolean isNoPage(int k) {
        return isOutside(k, 0, here.floor.pageCount - 1);
    }

    private static boolean isNoFount(int f) {
        return isOutside(f, 0, FOUNTS - 1);
    }

    private static boolean isNoParagraph(int p) {
        return isOutside(p, 0, PARAGRAPHS - 1);
    }

    private static boolean isNoPlace(int i) {
        return isOutside(i, 0, STICK_PLACES - 1);
    }

    private static boolean isNotInCase(int kind) {
        return isOutside(kind, LETTER, ORNAMENT);
    }

    private static boolean isOutside(int n, int least, int most) {
        return n < least || n > most;
    }

    /** THE TRACE: the numbers of the BODIES that began. */
    private static final class Trace {
        private static final int KEPT = 60;

        final int[] bodies = new int[KEPT];
        int count = 0;

        void clear() {
            count = 0;
        }

        void begin(int body) {
            if (count < KEPT) {
                bodies[count] = body;
            }
            count++;
        }

        int bodyAt(int i) {
            return isOutside(i, 0, Math.min(count, KEPT) - 1) ? NONE : bodies[i];
        }
    }

    /** A FOUNT without what lies in its CASE: that is undone, this is not. */
    private static final class Fount {
        private static final int JOIN_LETTERS = 3;

        final int number;
        final int letters;
        final int[] widths;
        final int[][] kerns;
        /** Three LETTERS for each JOIN, the third one -1 if it has two. */
        final int[] joinLetters = new int[JOINS * JOIN_LETTERS];
        final int[] joinWidths = new int[JOINS];
        final int[] ornaments = new int[ORNAMENTS];
        int joins = 0;
        int space = 3;
        int stretch = 2;
        int shrink = 1;
        int height = 1;

        Fount(int number, int letters) {
            this.number = number;
            this.letters = letters;
            widths = new int[letters];
            kerns = new int[letters][];
            Arrays.fill(widths, 1);
            Arrays.fill(ornaments, 2);
        }

        boolean hasLetter(int a) {
            return a >= 0 && a < letters;
        }

        int addJoin(int a, int b, int c, int w) {
            int at = joins * JOIN_LETTERS;
            joinLetters[at] = a;
            joinLetters[at + 1] = b;
            joinLetters[at + 2] = c;
            joinWidths[joins] = w;
            joins++;
            return joins - 1;
        }

        int joinLength(int j) {
            return joinLetters[j * JOIN_LETTERS + 2] < 0 ? 2 : 3;
        }

        int joinBegin(int j) {
            return joinLetters[j * JOIN_LETTERS];
        }

        int joinEnd(int j) {
            return joinLetters[j * JOIN_LETTERS + joinLength(j) - 1];
        }

        boolean isJoinAt(int j, int[] signs, int at) {
            int length = joinLength(j);
            if (at + length > signs.length) {
                return false;
            }
            for (int i = 0; i < length; i++) {
                if (signs[at + i] != joinLetters[j * JOIN_LETTERS + i]) {
                    return false;
                }
            }
            return true;
        }

        /** An a of -1: no LETTER stands ahead of b. */
        int kernOf(int a, int b) {
            int[] row = a < 0 ? null : kerns[a];
            return row == null || b >= row.length ? 0 : row[b];
        }

        /** The place of a BOX among those of all FOUNTS, or the fault that looking for it meets. */
        int boxOf(int kind, int code) {
            int first = number * CASE_BOXES;
            switch (kind) {
                case LETTER: return hasLetter(code) ? first + code : INDEX;
                case JOINED: return isOutside(code, 0, joins - 1) ? INDEX : first + JOIN_BOXES + code;
                case SPACE: return first + SPACE_BOX;
                case RULE: return first + RULE_BOX;
                case ORNAMENT: return isOutside(code, 0, ORNAMENTS - 1) ? INDEX : first + ORNAMENT_BOXES + code;
                default: return INDEX;
            }
        }
    }

    /** A SORT never changes, so that what is kept may hold the same ones as the floor. */
    private static final class Sort {
        final int kind;
        final Fount fount;
        /** The LETTER, JOIN or ORNAMENT; of others 0. */
        final int code;
        final int added;
        /** Of a STACK alone. */
        final Sort first;
        final Sort second;

        Sort(int kind, Fount fount, int code, int added) {
            this.kind = kind;
            this.fount = fount;
            this.code = code;
            this.added = added;
            first = null;
            second = null;
        }

        /** A STACK, of two that are LETTERS or JOINED. */
        Sort(Sort first, Sort second) {
            kind = STACK;
            fount = first.fount;
            code = 0;
            added = 0;
            this.first = first;
            this.second = second;
        }

        boolean isLetter() {
            return kind == LETTER || kind == JOINED;
        }

        boolean isGap() {
            return kind == SPACE || kind == RULE;
        }

        boolean isOfType(int type) {
            return type == ALL_SORTS || (type == LETTERS_ONLY ? isLetter() : isGap());
        }

        boolean answers(int what) {
            switch (what) {
                case 1: return isGap();
                case 2: return kind != SPACE;
                case 3: return kind == JOINED;
                default: return true;
            }
        }

        int codeTold() {
            return kind == JOINED ? fount.joinBegin(code) : code;
        }

        /** Puts into its BOX (by 1) or takes from it (by -1): how many SORTS. */
        int move(int[] boxes, int by) {
            if (first == null || second == null) {
                return moveOne(boxes, by);
            }
            return first.moveOne(boxes, by) + second.moveOne(boxes, by);
        }

        private int moveOne(int[] boxes, int by) {
            int box = fount.boxOf(kind, code);
            if (isOutside(box, 0, boxes.length - 1)) {
                return 0;
            }
            boxes[box] += by;
            return 1;
        }

        int wide(Trace trace) {
            if (first != null && second != null) {
                trace.begin(5);
                return Math.max(first.letterWide(trace), second.letterWide(trace));
            }
            if (isGap()) {
                trace.begin(3);
                return base(trace) + added;
            }
            if (kind == ORNAMENT) {
                trace.begin(4);
                return fount.ornaments[code];
            }
            return letterWide(trace);
        }

        private int letterWide(Trace trace) {
            trace.begin(kind == JOINED ? 2 : 1);
            return kind == JOINED ? fount.joinWidths[code] : fount.widths[code];
        }

        private int base(Trace trace) {
            trace.begin(kind == SPACE ? 6 : 7);
            return kind == SPACE ? fount.space : 0;
        }

        int share(Trace trace) {
            if (kind == RULE) {
                trace.begin(11);
                return shareOfAll(trace) + 2;
            }
            return shareOfAll(trace);
        }

        private int shareOfAll(Trace trace) {
            trace.begin(10);
            return 1;
        }

        int ink(Trace trace) {
            if (first != null && second != null) {
                trace.begin(23);
                return 5 * first.letterInk(trace) + second.letterInk(trace);
            }
            return isLetter() ? letterInk(trace) : lentInk(trace);
        }

        private int lentInk(Trace trace) {
            trace.begin(20);
            return wide(trace) + 9;
        }

        private int letterInk(Trace trace) {
            if (kind == JOINED) {
                trace.begin(22);
                return plainLetterInk(trace) + 100 + code;
            }
            return plainLetterInk(trace);
        }

        private int plainLetterInk(Trace trace) {
            trace.begin(21);
            return 3 * codeTold() + 7;
        }
    }

    /** A LINE does not change once it is set. */
    private static final class Line {
        final int paragraph;
        final Fount fount;
        final int measure;
        final int order;
        final int together;
        final Sort[] sorts;
        /** The paragraphs that are CALLED in it, in order, each as often as it is. */
        final int[] calls;
        /** The FOUNT's may change while no SORT of it is OUT, and a LINE may have none. */
        final int height;
        int width = 0;
        int how = PLAIN;
        int badness = 0;
        boolean endsAtHyphen = false;

        Line(int paragraph, Fount fount, int measure, int order, int together, Sort[] sorts, int[] calls) {
            this.paragraph = paragraph;
            this.fount = fount;
            this.measure = measure;
            this.order = order;
            this.together = together;
            this.sorts = sorts;
            this.calls = calls;
            height = fount.height;
        }

        boolean isLast() {
            return order == together - 1;
        }

        boolean makesWidow() {
            return together > 1 && order == together - 1;
        }

        boolean makesOrphan() {
            return together > 1 && order == 0;
        }

        int tell(int what) {
            switch (what) {
                case 0: return paragraph;
                case 1: return fount.number;
                case 2: return order;
                case 3: return sorts.length;
                case 4: return width;
                case 5: return measure;
                case 6: return how;
                case 7: return endsAtHyphen ? 1 : 0;
                case 8: return isLast() ? 1 : 0;
                case 9: return badness;
                default: return BAD;
            }
        }

        int moveSorts(int[] boxes, int by) {
            int moved = 0;
            for (Sort sort : sorts) {
                moved += sort.move(boxes, by);
            }
            return moved;
        }
    }

    /** A PAGE as it was made. */
    private static final class Page {
        final int first;
        final int lines;
        final int height;
        final int how;
        final int[] notes;

        Page(int first, int lines, int height, int how, int[] notes) {
            this.first = first;
            this.lines = lines;
            this.height = height;
            this.how = how;
            this.notes = notes;
        }

        int tell(int what) {
            switch (what) {
                case 0: return first;
                case 1: return lines;
                case 2: return height;
                case 3: return how;
                case 4: return notes.length;
                default: return BAD;
            }
        }
    }

    private static final class Forme {
        final int number;
        final Line[] lines;

        Forme(int number, Line[] lines) {
            this.number = number;
            this.lines = lines;
        }

        long impression(Trace trace) {
            long d = 17;
            for (Line line : lines) {
                for (Sort sort : line.sorts) {
                    int more = sort.kind == SPACE ? sort.wide(trace) : sort.ink(trace);
                    d = 31 * d + more;
                }
            }
            return d;
        }
    }

    /** All of a ROOM that ACTS change and undo() gives back. */
    private static final class Floor {
        final int[] boxes = new int[FOUNTS * CASE_BOXES];
        final Sort[] stick = new Sort[STICK_PLACES];
        final Sort[] tray = new Sort[TRAY_PLACES];
        int trayType = ALL_SORTS;
        /** -1: there is no TRAY. */
        int trayPlaces = -1;
        final Line[] lines = new Line[GALLEY_LINES];
        int lineCount = 0;
        final Page[] pages = new Page[GALLEY_LINES];
        int pageCount = 0;
        final Forme[] formes = new Forme[FORMES];
        int formeCount = 0;

        void copyFrom(Floor other) {
            System.arraycopy(other.boxes, 0, boxes, 0, boxes.length);
            for (int i = 0; i < STICK_PLACES; i++) {
                stick[i] = other.stick[i];
            }
            for (int k = 0; k < TRAY_PLACES; k++) {
                tray[k] = other.tray[k];
            }
            trayType = other.trayType;
            trayPlaces = other.trayPlaces;
            copyGalley(other);
            for (int i = 0; i < other.formeCount; i++) {
                formes[i] = other.formes[i];
            }
            formeCount = other.formeCount;
        }

        private void copyGalley(Floor other) {
            for (int l = 0; l < other.lineCount; l++) {
                lines[l] = other.lines[l];
            }
            lineCount = other.lineCount;
            for (int k = 0; k < other.pageCount; k++) {
                pages[k] = other.pages[k];
            }
            pageCount = other.pageCount;
        }

        boolean hasTrayPlace(int k) {
            return k >= 0 && k < trayPlaces;
        }

        boolean hasSortInTray() {
            for (int k = 0; k < trayPlaces; k++) {
                if (tray[k] != null) {
                    return true;
                }
            }
            return false;
        }

        int sortsIn(int f) {
            int sorts = 0;
            for (int b = 0; b < CASE_BOXES; b++) {
                sorts += boxes[f * CASE_BOXES + b];
            }
            return sorts;
        }

        void addLines(Line[] more, int count) {
            for (int l = 0; l < count && lineCount < GALLEY_LINES; l++) {
                more[l].moveSorts(boxes, -1);
                lines[lineCount] = more[l];
                lineCount++;
            }
            pageCount = 0;
        }

        int removeLinesFrom(int l) {
            int moved = 0;
            for (int i = l; i < lineCount; i++) {
                moved += lines[i].moveSorts(boxes, 1);
            }
            lineCount = l;
            pageCount = 0;
            return moved;
        }

        void addPage(Page page) {
            if (pageCount < GALLEY_LINES) {
                pages[pageCount] = page;
                pageCount++;
            }
        }

        void lockPages(int firstNumber) {
            for (int k = 0; k < pageCount && formeCount < FORMES; k++) {
                formes[formeCount] = new Forme(firstNumber + k, linesOf(pages[k]));
                formeCount++;
            }
            lineCount = 0;
            pageCount = 0;
        }

        private Line[] linesOf(Page page) {
            Line[] row = new Line[page.lines];
            for (int l = 0; l < page.lines; l++) {
                row[l] = lines[page.first + l];
            }
            return row;
        }

        int placeOfForme(int number) {
            for (int i = 0; i < formeCount; i++) {
                if (formes[i].number == number) {
                    return i;
                }
            }
            return -1;
        }

        int removeForme(int at) {
            int moved = 0;
            for (Line line : formes[at].lines) {
                moved += line.moveSorts(boxes, 1);
            }
            for (int i = at + 1; i < formeCount; i++) {
                formes[i - 1] = formes[i];
            }
            formeCount--;
            return moved;
        }
    }

    private static final class Room {
        final Fount[] founts = new Fount[FOUNTS];
        final int[] boughtOf = new int[FOUNTS];
        final int[][] paragraphs = new int[PARAGRAPHS][];
        final int[] noteHeights = new int[PARAGRAPHS];
        Floor floor = new Floor();
        Floor kept = new Floor();
        boolean hasKept = false;

        Room() {
            Arrays.fill(noteHeights, NOTE_HEIGHT);
        }

        void keep() {
            kept.copyFrom(floor);
            hasKept = true;
        }

        void takeBack() {
            Floor undone = floor;
            floor = kept;
            kept = undone;
            hasKept = false;
        }

        int boxOf(int f, int kind, int code) {
            return founts[f] == null ? NULL : founts[f].boxOf(kind, code);
        }

        int bought() {
            int sorts = 0;
            for (int f = 0; f < FOUNTS; f++) {
                sorts += boughtOf[f];
            }
            return sorts;
        }

        int sortsOutOf(int f) {
            return boughtOf[f] - floor.sortsIn(f);
        }

        int sortsOut() {
            int sorts = 0;
            for (int f = 0; f < FOUNTS; f++) {
                sorts += sortsOutOf(f);
            }
            return sorts;
        }
    }

    /** What a paragraph is READ as: SORTS, HYPHENS and CALLS, in order. */
    private static final class Reading {
        private static final int SPACE_SIGN = 32, HYPHEN_SIGN = 45, RULE_SIGN = 61, STACK_SIGN = 94;
        private static final int FIRST_CALL = 64, FIRST_ORNAMENT = 96;

        final int[] kinds = new int[SIGNS];
        final int[] codes = new int[SIGNS];
        /** The second LETTERS of STACKS. */
        final int[] seconds = new int[SIGNS];
        int count = 0;
        Fount fount = null;
        private int[] signs = null;

        /** Answers 0, or the fault that was met. */
        int readAll(int[] signs, Fount fount) {
            this.signs = signs;
            this.fount = fount;
            count = 0;
            int read = 0;
            for (int at = 0; at < signs.length && count < SIGNS; at += read) {
                read = readAt(at);
                if (read <= 0) {
                    return read;
                }
            }
            return 0;
        }

        /** Answers how many SIGNS were read, or the fault that was met. */
        private int readAt(int at) {
            int sign = signs[at];
            if (sign == STACK_SIGN) {
                return readStackAt(at);
            }
            int kind = kindOf(sign);
            if (kind == LETTER) {
                return readLetterAt(at);
            }
            if (kind == HYPHEN && !fount.hasLetter(0)) {
                return INDEX;
            }
            return found(kind, codeOf(kind, sign), 0, 1);
        }

        private int readStackAt(int at) {
            int first = letterAt(at + 1);
            if (first < 0) {
                return first;
            }
            int second = letterAt(at + 2);
            return second < 0 ? second : found(STACK, first, second, 3);
        }

        private int readLetterAt(int at) {
            int join = joinAt(at);
            if (join >= 0) {
                return found(JOINED, join, 0, fount.joinLength(join));
            }
            return fount.hasLetter(signs[at]) ? found(LETTER, signs[at], 0, 1) : INDEX;
        }

        /** The LETTER that a SIGN of a STACK is, or the fault that is met. */
        private int letterAt(int at) {
            if (at >= signs.length) {
                return INDEX;
            }
            int kind = kindOf(signs[at]);
            if (kind == SPACE || kind == RULE || kind == ORNAMENT) {
                return CAST;
            }
            return fount.hasLetter(signs[at]) ? signs[at] : INDEX;
        }

        private int joinAt(int at) {
            int longest = -1;
            for (int j = 0; j < fount.joins; j++) {
                boolean isLonger = longest < 0 || fount.joinLength(j) > fount.joinLength(longest);
                if (isLonger && fount.isJoinAt(j, signs, at)) {
                    longest = j;
                }
            }
            return longest;
        }

        private int found(int kind, int code, int second, int read) {
            kinds[count] = kind;
            codes[count] = code;
            seconds[count] = second;
            count++;
            return read;
        }

        private static int kindOf(int sign) {
            if (sign >= FIRST_CALL && sign < FIRST_CALL + PARAGRAPHS) {
                return CALL;
            }
            if (sign >= FIRST_ORNAMENT && sign < FIRST_ORNAMENT + ORNAMENTS) {
                return ORNAMENT;
            }
            switch (sign) {
                case SPACE_SIGN: return SPACE;
                case HYPHEN_SIGN: return HYPHEN;
                case RULE_SIGN: return RULE;
                default: return LETTER;
            }
        }

        private static int codeOf(int kind, int sign) {
            switch (kind) {
                case CALL: return sign - FIRST_CALL;
                case ORNAMENT: return sign - FIRST_ORNAMENT;
                default: return 0;
            }
        }

        boolean mayBreakBehind(int k) {
            return k < count - 1 && (kinds[k] == SPACE || kinds[k] == HYPHEN);
        }

        boolean isSort(int k) {
            return kinds[k] != HYPHEN && kinds[k] != CALL;
        }

        Sort sortAt(int k, int added) {
            if (kinds[k] == STACK) {
                return new Sort(new Sort(LETTER, fount, codes[k], 0), new Sort(LETTER, fount, seconds[k], 0));
            }
            return new Sort(kinds[k], fount, codes[k], added);
        }
    }

    /** Breaks what was READ into LINES and justifies them. */
    private static final class Composer {
        private static final int RULE_SHARE = 3;
        /** Above the BADNESS of as many LINES as a paragraph may have, were none of them to fit. */
        private static final int WORST = 2000000000;

        final Line[] lines = new Line[SIGNS];
        int lineCount = 0;
        /** How many LINES had units to give and nothing to give them to. */
        int zeros = 0;
        /** By where a LINE begins: the least BADNESS from there on, and where that LINE ends. */
        private final int[] best = new int[SIGNS + 1];
        private final int[] ends = new int[SIGNS + 1];
        private final int[] needed = new int[FOUNTS * CASE_BOXES];
        private Reading reading = null;
        private Fount fount = null;
        private int measure = 0;
        // The LINE that is being measured:
        private int width = 0;
        private int spaces = 0;
        private int rules = 0;
        private int sorts = 0;
        /** The LETTER with which it ends so far; -1 if no KERN comes there. */
        private int ending = -1;
        // What its gaps get:
        private int forSpace = 0;
        private int forRule = 0;
        /** Units for the first gaps, one for each; below 0: for the first SPACES, one less for each. */
        private int units = 0;

        void compose(Reading reading, int paragraph, int measure) {
            this.reading = reading;
            this.measure = measure;
            fount = reading.fount;
            chooseBreaks();
            int together = countLines();
            lineCount = 0;
            zeros = 0;
            int from = 0;
            while (lineCount < together) {
                lines[lineCount] = makeLine(paragraph, together, from, ends[from]);
                lineCount++;
                from = ends[from];
            }
        }

        boolean findsSortsIn(int[] boxes) {
            Arrays.fill(needed, 0);
            for (int l = 0; l < lineCount; l++) {
                lines[l].moveSorts(needed, 1);
            }
            for (int b = 0; b < needed.length; b++) {
                if (needed[b] > boxes[b]) {
                    return false;
                }
            }
            return true;
        }

        private void chooseBreaks() {
            for (int from = reading.count - 1; from > 0; from--) {
                if (reading.mayBreakBehind(from - 1)) {
                    chooseEndFrom(from);
                }
            }
            chooseEndFrom(0);
        }

        /** Earlier ends are offered first, and a later one must be better. */
        private void chooseEndFrom(int from) {
            best[from] = WORST;
            ends[from] = reading.count;
            startMeasuring();
            for (int k = from; k < reading.count; k++) {
                if (reading.mayBreakBehind(k)) {
                    boolean isHyphen = reading.kinds[k] == HYPHEN;
                    int u = measure - width - (isHyphen ? widthOfHyphen() : 0);
                    offer(from, k + 1, badnessOf(u, isHyphen, false) + best[k + 1]);
                }
                add(k);
            }
            offer(from, reading.count, badnessOf(measure - width, false, true));
        }

        private void offer(int from, int end, int badness) {
            if (badness < best[from]) {
                best[from] = badness;
                ends[from] = end;
            }
        }

        private int countLines() {
            int count = 1;
            for (int at = ends[0]; at < reading.count && count < SIGNS; at = ends[at]) {
                count++;
            }
            return count;
        }

        private void startMeasuring() {
            width = 0;
            spaces = 0;
            rules = 0;
            sorts = 0;
            ending = -1;
        }

        private void add(int k) {
            int code = reading.codes[k];
            switch (reading.kinds[k]) {
                case LETTER:
                    addLetters(code, code, fount.widths[code]);
                    break;
                case JOINED:
                    addLetters(fount.joinBegin(code), fount.joinEnd(code), fount.joinWidths[code]);
                    break;
                case SPACE:
                    spaces++;
                    addOther(fount.space);
                    break;
                case RULE:
                    rules++;
                    addOther(0);
                    break;
                case ORNAMENT:
                    addOther(fount.ornaments[code]);
                    break;
                case STACK:
                    addOther(Math.max(fount.widths[code], fount.widths[reading.seconds[k]]));
                    break;
                default:
                    break;
            }
        }

        private void addLetters(int begin, int end, int wide) {
            width += fount.kernOf(ending, begin) + wide;
            ending = end;
            sorts++;
        }

        private void addOther(int wide) {
            width += wide;
            ending = -1;
            sorts++;
        }

        /** A HYPHEN is read only if there is a LETTER 0. */
        private int widthOfHyphen() {
            return fount.kernOf(ending, 0) + fount.widths[0];
        }

        private int shares() {
            return spaces + RULE_SHARE * rules;
        }

        private boolean fits(int u) {
            return u >= -fount.shrink * spaces;
        }

        private int badnessOf(int u, boolean isHyphen, boolean isLast) {
            if (!fits(u)) {
                return 10000000 - u;
            }
            if (isLast) {
                return u < 0 ? u * u : 0;
            }
            int loose = u > fount.stretch * shares() ? 1000 : 0;
            return u * u + loose + (isHyphen ? 50 : 0);
        }

        private Line makeLine(int paragraph, int together, int from, int end) {
            boolean isLast = end >= reading.count;
            boolean isHyphen = !isLast && reading.kinds[end - 1] == HYPHEN;
            int to = isLast || isHyphen ? end : end - 1;
            startMeasuring();
            for (int k = from; k < to; k++) {
                add(k);
            }
            if (isHyphen) {
                addLetters(0, 0, fount.widths[0]);
            }
            int u = measure - width;
            int how = justify(u, isLast);
            int given = spaces * forSpace + rules * forRule + units;
            Line line = new Line(paragraph, fount, measure, lineCount, together,
                    makeSorts(from, to, isHyphen), makeCalls(from, to));
            line.width = width + given;
            line.how = how;
            line.badness = badnessOf(u, isHyphen, isLast);
            line.endsAtHyphen = isHyphen;
            return line;
        }

        /** Answers how the LINE is told. */
        private int justify(int u, boolean isLast) {
            forSpace = 0;
            forRule = 0;
            units = 0;
            int shares = shares();
            if (!fits(u)) {
                forSpace = -fount.shrink;
                return TIGHT;
            }
            if (u == 0 || (isLast && u > 0)) {
                return PLAIN;
            }
            if (u < 0) {
                giveLess(u);
                return PLAIN;
            }
            if (shares == 0) {
                zeros++;
                return NOT_JUSTIFIED;
            }
            forSpace = u / shares;
            forRule = u * RULE_SHARE / shares;
            units = u - spaces * forSpace - rules * forRule;
            return u > fount.stretch * shares ? LOOSE : PLAIN;
        }

        private void giveLess(int u) {
            if (spaces > 0) {
                forSpace = u / spaces;
                units = u - spaces * forSpace;
            }
        }

        private Sort[] makeSorts(int from, int to, boolean isHyphen) {
            Sort[] row = new Sort[sorts];
            int at = 0;
            for (int k = from; k < to; k++) {
                if (reading.isSort(k)) {
                    row[at] = reading.sortAt(k, nextAdded(reading.kinds[k]));
                    at++;
                }
            }
            if (isHyphen) {
                row[at] = new Sort(LETTER, fount, 0, 0);
            }
            return row;
        }

        private int nextAdded(int kind) {
            if (kind == SPACE) {
                int unit = Integer.signum(units);
                units -= unit;
                return forSpace + unit;
            }
            if (kind == RULE) {
                int unit = units > 0 ? 1 : 0;
                units -= unit;
                return forRule + unit;
            }
            return 0;
        }

        private int[] makeCalls(int from, int to) {
            int count = 0;
            for (int k = from; k < to; k++) {
                count += reading.kinds[k] == CALL ? 1 : 0;
            }
            int[] calls = new int[count];
            int at = 0;
            for (int k = from; k < to; k++) {
                if (reading.kinds[k] == CALL) {
                    calls[at] = reading.codes[k];
                    at++;
                }
            }
            return calls;
        }
    }

    /** Breaks the LINES of a GALLEY into PAGES. */
    private static final class Pager {
        private static final int MOST_WEIGHED = 40;
        /** Above the BADNESS of as many PAGES as are weighed, were each of them BEYOND. */
        private static final long WORST = 1000000000000L;

        /** By the first LINE of a page: the least BADNESS from there on, and how many LINES it takes. */
        private final long[] best = new long[MOST_WEIGHED + 1];
        private final int[] taken = new int[MOST_WEIGHED + 1];
        private final int[] notes = new int[PARAGRAPHS];
        private Floor floor = null;
        private int[] noteHeights = null;
        private int most = 0;
        // The page that is being measured:
        private int height = 0;
        private int noteCount = 0;
        private int noteBits = 0;

        void makePages(Floor floor, int[] noteHeights, int most) {
            this.floor = floor;
            this.noteHeights = noteHeights;
            this.most = most;
            floor.pageCount = 0;
            boolean isWeighed = floor.lineCount <= MOST_WEIGHED;
            if (isWeighed) {
                weighPages();
            }
            int lines = 0;
            for (int first = 0; first < floor.lineCount; first += lines) {
                lines = Math.max(1, isWeighed ? taken[first] : linesFilling(first));
                floor.addPage(makePage(first, lines));
            }
        }

        private void weighPages() {
            best[floor.lineCount] = 0;
            for (int first = floor.lineCount - 1; first >= 0; first--) {
                weighPageFrom(first);
            }
        }

        /** Fewer LINES are weighed first, and more must be better. */
        private void weighPageFrom(int first) {
            best[first] = WORST;
            startMeasuring();
            for (int end = first + 1; end <= floor.lineCount; end++) {
                add(floor.lines[end - 1]);
                if (height > most && end > first + 1) {
                    return;
                }
                long badness = badnessOf(first, end) + best[end];
                if (badness < best[first]) {
                    best[first] = badness;
                    taken[first] = end - first;
                }
            }
        }

        private long badnessOf(int first, int end) {
            int how = howIs(first, end);
            long badness = 0;
            if (height > most) {
                badness = 100000000 + height - most;
            } else if (end < floor.lineCount) {
                badness = (most - height) * (most - height);
            }
            badness += (how & WIDOW) != 0 ? 1000000 : 0;
            badness += (how & ORPHAN) != 0 ? 1000000 : 0;
            return badness;
        }

        private int linesFilling(int first) {
            startMeasuring();
            add(floor.lines[first]);
            int end = first + 1;
            while (end < floor.lineCount) {
                add(floor.lines[end]);
                if (height > most) {
                    break;
                }
                end++;
            }
            boolean leavesWidow = end < floor.lineCount && floor.lines[end].makesWidow();
            boolean isOneTooMany = leavesWidow || floor.lines[end - 1].makesOrphan();
            return isOneTooMany && end - first >= 2 ? end - first - 1 : end - first;
        }

        private Page makePage(int first, int lines) {
            startMeasuring();
            for (int l = first; l < first + lines; l++) {
                add(floor.lines[l]);
            }
            return new Page(first, lines, height, howIs(first, first + lines), Arrays.copyOf(notes, noteCount));
        }

        private int howIs(int first, int end) {
            int how = height > most ? BEYOND : 0;
            how |= floor.lines[first].makesWidow() ? WIDOW : 0;
            how |= floor.lines[end - 1].makesOrphan() ? ORPHAN : 0;
            return how;
        }

        private void startMeasuring() {
            height = 0;
            noteCount = 0;
            noteBits = 0;
        }

        private void add(Line line) {
            height += line.height;
            for (int paragraph : line.calls) {
                int bit = 1 << paragraph;
                if ((noteBits & bit) == 0) {
                    noteBits |= bit;
                    notes[noteCount] = paragraph;
                    noteCount++;
                    height += noteHeights[paragraph];
                }
            }
        }
    }
}
