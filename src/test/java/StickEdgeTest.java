/** Promises 14 to 21 and 36, and SORTS, BODIES, THE TRACE, STICK and TRAY of section 1, sentence by sentence. */
final class StickEdgeTest {
    private static final int MIN = Bench.MIN, MAX = Bench.MAX;
    private static final int[] NO_PLACES = {-1, 10, MIN, MAX};
    /** Where filled() has them; the places 6 to 9 are holes. */
    private static final int LETTER = 0, JOINED = 1, SPACE = 2, RULE = 3, ORNAMENT = 4, STACK = 5;

    public static void main(String[] args) {
        kinds();
        out();
        wide();
        base();
        share();
        ink();
        inOrder();
        traceIsEmptied();
        traceOfSixty();
        stickAndTray();
        takenFor();
        take();
        putBack();
        stack();
        ask();
        askFaults();
        added();
        tray();
        lay();
        pick();
        trace();
        Due.end();
    }

    /** Each KIND at the place of its number: LETTER 1, JOIN 1 of 2 and 1, ORNAMENT 3, a STACK of LETTERS 2 and 0. */
    private static Run filled() {
        Run r = Run.stocked(3, 9);
        r.does("width", 0, 0, 4);
        r.does("width", 0, 1, 6);
        r.does("width", 0, 2, 5);
        r.does("join", 0, 0, 0, -1, 1);
        r.does("join", 0, 2, 1, -1, 8);
        r.does("buy", 0, 1, 1, 9);
        r.does("ornament", 0, 3, 7);
        r.does("take", STACK, 0, 0, 2);
        r.does("take", 9, 0, 0, 0);
        r.does("stack", STACK, 9);
        r.does("take", LETTER, 0, 0, 1);
        r.does("take", JOINED, 0, 1, 1);
        r.does("take", SPACE, 0, 2, 0);
        r.does("take", RULE, 0, 3, 0);
        r.does("take", ORNAMENT, 0, 4, 3);
        return r;
    }

    private static void kinds() {
        Doc.terms("SORTS are of KINDS 0 LETTER, 1 JOINED (a LETTER, too), 2 SPACE, 3 RULE, 4 ORNAMENT, 5 STACK (of two "
                + "LETTERS).");
        Run r = filled();
        for (int kind = 0; kind < 6; kind++) {
            r.is(kind, "ask", kind, 4);
        }
        r.does("take", 9, 0, 0, 0);
        r.is(1, "stack", JOINED, 9);
    }

    private static void out() {
        Doc.terms("A SORT is OUT, if it lies in none: in the STICK, the TRAY, a LINE, a FORME (a STACK there is two).");
        Run r = Run.stocked(1, 20);
        r.is(0, "told", 3);
        r.does("take", 0, 0, 0, 0);
        r.does("take", 1, 0, 0, 0);
        r.is(2, "told", 3);
        r.does("stack", 0, 1);
        r.is(2, "told", 3);
        r.does("tray", 0, 1);
        r.does("lay", 0, 0);
        r.is(2, "told", 3);
        r.state("width", 0, 0, 1);
        r.write(0, 94, 0, 0, 32);
        r.does("set", 0, 0, 9);
        r.is(5, "told", 3);
        r.does("makeup", 9);
        r.does("lock");
        r.is(5, "told", 3);
        r.does("pick", 0, 5);
        r.does("putBack", 5);
        r.is(3, "told", 3);
        r.state("width", 0, 0, 1);
        r.does("distribute", 1);
        r.is(0, "told", 3);
        r.is(1, "width", 0, 0, 1);
    }

    private static void traced(Run r, int place, int what, int due, int... bodies) {
        r.is(due, "ask", place, what);
        r.is(bodies.length, "told", 8);
        r.are("trace", bodies);
        r.none("trace", bodies.length);
    }

    private static void wide() {
        Doc.terms("What SORTS do, by BODIES, each of which leaves its number in THE TRACE as it begins (in ask() and "
                + "print() alone).");
        Run r = filled();
        traced(r, LETTER, 0, 6, 1);
        r.write(0, 0, 32, 94, 0, 0, 96);
        r.does("set", 0, 0, 9);
        r.does("makeup", 9);
        r.does("lock");
        r.is(1, "told", 8);
        r.is(1, "trace", 0);
        Doc.terms("WIDE: 1 of LETTERS: the WIDTH of its LETTER;");
        traced(r, LETTER, 0, 6, 1);
        Doc.terms("2 of JOINED ones: that of its JOIN;");
        traced(r, JOINED, 0, 8, 2);
        Doc.terms("3 of SPACES and RULES: what BASE gives, and its ADDED (0 at first);");
        traced(r, SPACE, 0, 3, 3, 6);
        traced(r, RULE, 0, 0, 3, 7);
        r.does("added", SPACE, 99);
        r.does("added", RULE, 5);
        traced(r, SPACE, 0, 102, 3, 6);
        traced(r, RULE, 0, 5, 3, 7);
        Doc.terms("4 of ORNAMENTS: its WIDTH;");
        traced(r, ORNAMENT, 0, 7, 4);
        Doc.terms("5 of STACKS: the greater one of what WIDE of its first and WIDE of its second LETTER give.");
        traced(r, STACK, 0, 5, 5, 1, 1);
        r.does("stack", LETTER, JOINED);
        traced(r, LETTER, 0, 8, 5, 1, 2);
        r.does("undo");
        r.does("stack", JOINED, LETTER);
        traced(r, JOINED, 0, 8, 5, 2, 1);
    }

    private static void base() {
        Doc.terms("BASE: 6 of SPACES: the FOUNT's SPACE; 7 of RULES: 0.");
        Run r = Run.stocked(1, 9);
        r.does("spacing", 0, 9, 2, 1, 1);
        r.does("take", 0, 0, 2, 0);
        r.does("take", 1, 0, 3, 0);
        traced(r, 0, 0, 9, 3, 6);
        traced(r, 1, 0, 0, 3, 7);
    }

    private static void share() {
        Doc.terms("SHARE, of SPACES and RULES: 10 of all: 1; 11 of RULES: what 10 gives, and 2.");
        Run r = filled();
        traced(r, SPACE, 1, 1, 10);
        traced(r, RULE, 1, 3, 11, 10);
        r.cast("ask", LETTER, 1);
        r.cast("ask", JOINED, 1);
        r.cast("ask", ORNAMENT, 1);
        r.cast("ask", STACK, 1);
    }

    private static void ink() {
        Run r = filled();
        Doc.terms("INK, of all but SPACES: 20 lent to all: what WIDE gives, and 9;");
        r.cast("ask", SPACE, 2);
        traced(r, RULE, 2, 9, 20, 3, 7);
        r.does("added", RULE, 4);
        traced(r, RULE, 2, 13, 20, 3, 7);
        traced(r, ORNAMENT, 2, 16, 20, 4);
        Doc.terms("21 of LETTERS: 3 times the LETTER, and 7;");
        traced(r, LETTER, 2, 10, 21);
        Doc.terms("22 of JOINED ones: what 21 gives (of its first LETTER), and 100, and its JOIN;");
        traced(r, JOINED, 2, 13 + 100 + 1, 22, 21);
        Doc.terms("23 of STACKS: 5 times INK of its first LETTER, and INK of its second one.");
        traced(r, STACK, 2, 5 * 13 + 7, 23, 21, 21);
        r.does("stack", LETTER, JOINED);
        traced(r, LETTER, 2, 5 * 10 + 114, 23, 21, 22, 21);
        r.does("undo");
        r.does("stack", JOINED, LETTER);
        traced(r, JOINED, 2, 5 * 114 + 10, 23, 22, 21, 21);
    }

    private static void inOrder() {
        Doc.terms("(Of an ask only the one that is told latest for its KIND begins, and what that asks, in the order "
                + "told.)");
        Run r = filled();
        traced(r, JOINED, 0, 8, 2);
        traced(r, RULE, 2, 9, 20, 3, 7);
        r.does("take", 9, 0, 0, 0);
        r.does("stack", 9, JOINED);
        traced(r, 9, 0, 8, 5, 1, 2);
        traced(r, 9, 2, 5 * 7 + 114, 23, 21, 22, 21);
        traced(r, LETTER, 4, 0);
        traced(r, LETTER, 5, 0);
        traced(r, LETTER, 6, 1);
    }

    private static void traceIsEmptied() {
        Doc.terms("THE TRACE (one of the house) is empty ahead of each ask() and print() that is neither refused nor "
                + "meets a FAULT;");
        Run r = filled();
        r.is(0, "told", 8);
        traced(r, SPACE, 0, 3, 3, 6);
        traced(r, LETTER, 0, 6, 1);
        traced(r, LETTER, 4, 0);
        traced(r, RULE, 2, 9, 20, 3, 7);
        r.isNull("ask", 9, 0);
        r.cast("ask", LETTER, 1);
        r.bad("ask", 9, 7);
        r.bad("print", 1);
        r.is(3, "told", 8);
        r.does("undo");
        r.does("room", 1);
        r.is(3, "told", 8);
        r.are("trace", 20, 3, 7);
        r.none("trace", 3);
        r.isNull("ask", 0, 0);
        r.is(3, "told", 8);
        r.does("fount", 0, 0);
        r.does("text", 0, 0);
        r.does("set", 0, 0, 1);
        r.does("makeup", 1);
        r.is(1, "lock");
        r.is(3, "told", 8);
        r.is(17, "print", 1);
        r.is(0, "told", 8);
        r.none("trace", 0);
    }

    private static void traceOfSixty() {
        Doc.terms("its first 60 are kept, all are counted.");
        for (int bodies = 59; bodies <= 61; bodies++) {
            Run r = Run.stocked(1, 80);
            int[] one = new int[30];
            int[] two = new int[bodies - 30];
            two[two.length - 1] = Bench.SPACE;
            r.write(0, one);
            r.write(1, two);
            r.does("set", 0, 0, 300);
            r.does("set", 1, 0, 300);
            r.does("makeup", 60);
            r.does("lock");
            r.does("print", 1);
            r.is(bodies + 1, "told", 8);
            r.is(21, "trace", 0);
            r.is(bodies == 59 ? 3 : 21, "trace", 58);
            if (bodies == 59) {
                r.is(6, "trace", 59);
            } else {
                r.is(bodies == 60 ? 3 : 21, "trace", 59);
            }
            r.none("trace", 60);
            r.none("trace", 61);
        }
    }

    private static void stickAndTray() {
        Doc.terms("THE STICK has places 0 .. 9, each with a SORT or a hole.");
        Run r = Run.stocked(1, 20);
        for (int i = 0; i < 10; i++) {
            r.isNull("ask", i, 4);
        }
        for (int i = 0; i < 10; i++) {
            r.is(1, "take", i, 0, 0, 0);
        }
        r.is(10, "told", 3);
        Doc.terms("THE TRAY is NOTHING at first, or a ROW of up to 8 places for SORTS of a TYPE: 0 all, 1 LETTERS, 2 "
                + "SPACES and RULES.");
        r = Run.stocked(1, 20);
        r.isNull("lay", 0, 0);
        r.isNull("pick", 0, 0);
        r.is(1, "tray", 0, 8);
        for (int k = 0; k < 8; k++) {
            r.does("take", 0, 0, 0, 0);
            r.is(1, "lay", 0, k);
        }
        r.index("lay", 0, 8);
        types();
    }

    private static void types() {
        int[][] fits = {{1, 1, 1, 1, 1, 1}, {1, 1, 0, 0, 0, 0}, {0, 0, 1, 1, 0, 0}};
        for (int type = 0; type < 3; type++) {
            Run r = filled();
            r.does("tray", type, 6);
            for (int kind = 0; kind < 6; kind++) {
                if (fits[type][kind] == 1) {
                    r.is(1, "lay", kind, kind);
                } else {
                    r.store("lay", kind, kind);
                    r.is(kind, "ask", kind, 4);
                }
            }
        }
    }

    private static void takenFor() {
        Doc.terms("A SORT of the STICK is TAKEN FOR something: a hole goes, another SORT is a CAST; then, as one comes "
                + "to it, NULL.");
        Run r = filled();
        r.isNull("ask", 9, 1);
        r.isNull("ask", 9, 2);
        r.isNull("ask", 9, 3);
        r.isNull("added", 9, 1);
        r.isNull("stack", 9, 8);
        r.cast("stack", 9, SPACE);
        r.cast("stack", SPACE, 9);
        r.isNull("stack", 9, LETTER);
        r.isNull("stack", LETTER, 9);
    }

    private static void take() {
        Doc.says(14, "A SORT of a KIND 0 .. 4 goes from its BOX (code as for buy()) to a place of the STICK: 1.");
        Run r = Run.stocked(2, 2);
        r.does("join", 0, 0, 1, -1, 4);
        r.does("buy", 0, 1, 0, 2);
        int[] codes = {1, 0, MIN, MAX, 3};
        int[] told = {1, 0, 0, 0, 3};
        for (int kind = 0; kind < 5; kind++) {
            r.is(1, "take", 9 - kind, 0, kind, codes[kind]);
            r.is(kind, "ask", 9 - kind, 4);
            r.is(told[kind], "ask", 9 - kind, 6);
            r.is(0, "ask", 9 - kind, 5);
            r.is(1, "left", 0, kind, codes[kind]);
        }
        r.is(2, "left", 0, 0, 0);
        Doc.says(14, "BAD: i, f, kind;");
        for (int i : NO_PLACES) {
            r.bad("take", i, 0, 0, 0);
        }
        for (int f : new int[] {-1, 4, MIN, MAX}) {
            r.bad("take", 0, f, 0, 0);
            r.bad("take", 9, f, 0, 0);
        }
        for (int kind : new int[] {-1, 5, MIN, MAX}) {
            r.bad("take", 0, 0, kind, 0);
            r.bad("take", 9, 0, kind, 0);
        }
        Doc.says(14, "STATE: there is one;");
        r.state("take", 9, 0, 0, 0);
        r.state("take", 9, 1, 0, 0);
        r.state("take", 9, 0, 0, 99);
        takeFaults();
    }

    private static void takeFaults() {
        Doc.says(14, "NULL, INDEX: no such BOX;");
        Run r = Run.stocked(2, 1);
        for (int kind = 0; kind < 5; kind++) {
            r.isNull("take", 0, 1, kind, 99);
        }
        for (int code : new int[] {-1, 24, MIN, MAX}) {
            r.index("take", 0, 0, 0, code);
            r.index("take", 0, 0, 1, code);
            r.index("take", 0, 0, 4, code);
        }
        r.index("take", 0, 0, 0, 2);
        r.index("take", 0, 0, 1, 0);
        r.index("take", 0, 0, 4, 4);
        Doc.says(14, "EMPTY.");
        r.does("join", 0, 0, 1, -1, 4);
        r.does("buy", 0, 1, 0, 1);
        for (int kind = 0; kind < 5; kind++) {
            r.is(1, "take", kind, 0, kind, 0);
            r.is(0, "left", 0, kind, 0);
            r.empty("take", 9, 0, kind, 0);
            r.isNull("ask", 9, 4);
            r.is(0, "left", 0, kind, 0);
        }
    }

    private static void putBack() {
        Doc.says(15, "The SORT at a place goes back to its BOX (of a STACK both), and a hole is there: how many went.");
        Run r = filled();
        int[] codes = {1, 1, 0, 0, 3};
        for (int kind = 0; kind < 5; kind++) {
            r.is(8, "left", 0, kind, codes[kind]);
            r.is(1, "putBack", kind);
            r.is(9, "left", 0, kind, codes[kind]);
            r.isNull("ask", kind, 4);
        }
        r.is(8, "left", 0, 0, 2);
        r.is(8, "left", 0, 0, 0);
        r.is(2, "putBack", STACK);
        r.is(9, "left", 0, 0, 2);
        r.is(9, "left", 0, 0, 0);
        r.is(0, "told", 3);
        r.does("fount", 3, 0);
        r.does("buy", 3, 4, 3, 1);
        r.does("take", 0, 3, 4, 3);
        r.is(1, "putBack", 0);
        r.is(1, "left", 3, 4, 3);
        Doc.says(15, "BAD;");
        for (int i : NO_PLACES) {
            r.bad("putBack", i);
        }
        Doc.says(15, "NULL: a hole.");
        r.isNull("putBack", STACK);
        r.isNull("putBack", 9);
        r.does("undo");
        r.is(4, "ask", 0, 4);
    }

    private static void stack() {
        Doc.says(16, "At place i is a STACK of the SORTS of i and j, each TAKEN FOR a LETTER (i, then j), at j a hole: 1.");
        Run r = filled();
        r.is(1, "stack", JOINED, LETTER);
        r.is(5, "ask", JOINED, 4);
        r.is(5 * 114 + 10, "ask", JOINED, 2);
        r.isNull("ask", LETTER, 4);
        r.is(7, "told", 3);
        Doc.says(16, "BAD: also i is j;");
        for (int i : NO_PLACES) {
            r.bad("stack", i, JOINED);
            r.bad("stack", JOINED, i);
            r.bad("stack", i, i);
        }
        for (int i = 0; i < 10; i++) {
            r.bad("stack", i, i);
        }
        Doc.says(16, "CAST, then NULL (i, then j).");
        r = filled();
        for (int other = SPACE; other <= STACK; other++) {
            r.cast("stack", LETTER, other);
            r.cast("stack", other, LETTER);
            r.cast("stack", other, 9);
            r.cast("stack", 9, other);
        }
        r.isNull("stack", LETTER, 9);
        r.isNull("stack", 9, LETTER);
        r.isNull("stack", 9, 8);
        r.is(0, "ask", LETTER, 4);
    }

    private static void ask() {
        Doc.says(17, "An ask of the SORT at a place: what = 0 WIDE,");
        asked(filled(), 0, 6, 8, 3, 0, 7, 5);
        Doc.says(17, "1 SHARE (TAKEN FOR one that has it),");
        int cast = Bench.CAST;
        asked(filled(), 1, cast, cast, 1, 3, cast, cast);
        Doc.says(17, "2 INK (likewise),");
        asked(filled(), 2, 10, 114, cast, 9, 16, 72);
        Doc.says(17, "3 its JOIN (TAKEN FOR a JOINED one),");
        asked(filled(), 3, cast, 1, cast, cast, cast, cast);
        Doc.says(17, "4 its KIND,");
        asked(filled(), 4, 0, 1, 2, 3, 4, 5);
        Doc.says(17, "5 its FOUNT (of a STACK its first LETTER's),");
        Run r = Run.stocked(1, 9);
        r.stock(3, 1, 9);
        for (int kind = 0; kind < 5; kind += kind == 0 ? 2 : 1) {
            r.does("take", kind, 3, kind, 0);
            r.is(3, "ask", kind, 5);
        }
        r.does("take", 1, 0, 0, 0);
        r.is(0, "ask", 1, 5);
        r.does("stack", 0, 1);
        r.is(3, "ask", 0, 5);
        r.does("undo");
        r.does("stack", 1, 0);
        r.is(0, "ask", 1, 5);
        Doc.says(17, "6 its code (the LETTER, of JOINED ones the first; the ORNAMENT; of others 0).");
        asked(filled(), 6, 1, 2, 0, 0, 3, 0);
    }

    private static void asked(Run r, int what, int... due) {
        for (int kind = 0; kind < due.length; kind++) {
            if (due[kind] == Bench.CAST) {
                r.cast("ask", kind, what);
            } else {
                r.is(due[kind], "ask", kind, what);
                r.is(0, "status");
            }
        }
    }

    private static void askFaults() {
        Doc.says(17, "BAD;");
        Run r = filled();
        for (int i : NO_PLACES) {
            r.bad("ask", i, 0);
        }
        for (int what : new int[] {-1, 7, MIN, MAX}) {
            r.bad("ask", 0, what);
            r.bad("ask", 9, what);
        }
        Doc.says(17, "CAST, NULL.");
        r.cast("ask", LETTER, 3);
        for (int what = 0; what < 7; what++) {
            r.isNull("ask", 9, what);
        }
    }

    private static void added() {
        Doc.says(18, "ADDED of the SORT at a place, TAKEN FOR a SPACE or RULE, is n (0 .. 99): 1.");
        Run r = filled();
        r.is(1, "added", SPACE, 99);
        r.is(102, "ask", SPACE, 0);
        r.is(1, "added", SPACE, 1);
        r.is(4, "ask", SPACE, 0);
        r.is(1, "added", SPACE, 0);
        r.is(3, "ask", SPACE, 0);
        r.is(1, "added", RULE, 99);
        r.is(99, "ask", RULE, 0);
        r.is(3, "ask", SPACE, 0);
        r.does("tray", 2, 1);
        r.does("lay", RULE, 0);
        r.does("pick", 0, 9);
        r.is(99, "ask", 9, 0);
        r.does("putBack", 9);
        r.does("take", 9, 0, 3, 0);
        r.is(0, "ask", 9, 0);
        Doc.says(18, "BAD;");
        for (int i : NO_PLACES) {
            r.bad("added", i, 1);
        }
        for (int n : new int[] {-1, 100, MIN, MAX}) {
            r.bad("added", SPACE, n);
            r.bad("added", LETTER, n);
            r.bad("added", 8, n);
        }
        Doc.says(18, "CAST, NULL.");
        r.cast("added", LETTER, 1);
        r.cast("added", JOINED, 1);
        r.cast("added", ORNAMENT, 1);
        r.cast("added", STACK, 0);
        r.isNull("added", 8, 1);
    }

    private static void tray() {
        Doc.says(19, "THE TRAY is a new ROW of n holes for a TYPE: 1.");
        Run r = filled();
        r.is(1, "tray", 0, 0);
        r.index("lay", LETTER, 0);
        r.is(1, "tray", 1, 1);
        r.store("lay", SPACE, 0);
        r.index("lay", LETTER, 1);
        r.is(1, "tray", 2, 8);
        r.store("lay", LETTER, 7);
        r.is(1, "lay", SPACE, 7);
        Doc.says(19, "BAD: type, n above 8;");
        for (int type : new int[] {-1, 3, MIN, MAX}) {
            r.bad("tray", type, 1);
            r.bad("tray", type, -1);
        }
        r.bad("tray", 0, 9);
        r.bad("tray", 0, MAX);
        Doc.says(19, "STATE: a SORT lies in it;");
        r.state("tray", 0, 1);
        r.state("tray", 0, -1);
        r.is(1, "pick", 7, 9);
        r.is(1, "lay", 9, 0);
        r.state("tray", 0, 1);
        r.is(1, "pick", 0, 9);
        r.is(1, "tray", 0, 2);
        Doc.says(19, "SIZE.");
        r.size("tray", 0, -1);
        r.size("tray", 2, MIN);
        r.is(1, "lay", LETTER, 1);
        r.index("lay", JOINED, 2);
    }

    private static void lay() {
        Doc.says(20, "What is at place i of the STICK (also a hole) goes to place k of the TRAY, at i is a hole: 1.");
        Run r = filled();
        r.does("tray", 0, 2);
        r.is(1, "lay", JOINED, 1);
        r.isNull("ask", JOINED, 4);
        r.is(1, "lay", 9, 0);
        r.is(1, "pick", 0, 9);
        r.isNull("ask", 9, 4);
        r.is(1, "pick", 1, 9);
        r.is(1, "ask", 9, 3);
        r.is(1, "lay", 9, 1);
        Doc.says(20, "BAD: i;");
        for (int i : NO_PLACES) {
            r.bad("lay", i, 0);
            r.bad("lay", i, 1);
            r.bad("lay", i, 9);
        }
        Doc.says(20, "STATE: at k is a SORT;");
        r.state("lay", LETTER, 1);
        r.state("lay", 9, 1);
        r.is(0, "ask", LETTER, 4);
        layFaults();
    }

    private static void layFaults() {
        Doc.says(20, "NULL: no TRAY;");
        Run r = filled();
        r.isNull("lay", LETTER, 0);
        r.isNull("lay", 9, -1);
        Doc.says(20, "INDEX: k;");
        r.does("tray", 1, 2);
        for (int k : new int[] {-1, 2, 8, MIN, MAX}) {
            r.index("lay", LETTER, k);
            r.index("lay", SPACE, k);
            r.index("lay", 9, k);
        }
        Doc.says(20, "STORE: it is not of that TYPE.");
        for (int other = SPACE; other <= STACK; other++) {
            r.store("lay", other, 0);
            r.is(other, "ask", other, 4);
        }
        r.is(1, "lay", 9, 0);
        r.is(1, "lay", LETTER, 0);
        r.state("lay", SPACE, 0);
        r.is(1, "lay", JOINED, 1);
        r = filled();
        r.does("tray", 2, 2);
        r.store("lay", LETTER, 0);
        r.store("lay", JOINED, 0);
        r.store("lay", ORNAMENT, 0);
        r.store("lay", STACK, 0);
        r.is(1, "lay", SPACE, 0);
        r.is(1, "lay", RULE, 1);
    }

    private static void pick() {
        Doc.says(21, "What is at place k of the TRAY goes to place i of the STICK, at k is a hole: 1.");
        Run r = filled();
        r.does("tray", 0, 2);
        r.does("lay", STACK, 1);
        r.is(1, "pick", 0, 9);
        r.isNull("ask", 9, 4);
        r.is(1, "pick", 1, 9);
        r.is(5, "ask", 9, 4);
        r.is(1, "pick", 1, 8);
        r.isNull("ask", 8, 4);
        r.is(7, "told", 3);
        r.does("tray", 0, 2);
        Doc.says(21, "BAD: i;");
        for (int i : NO_PLACES) {
            r.bad("pick", 0, i);
            r.bad("pick", 9, i);
        }
        Doc.says(21, "STATE: at i is a SORT;");
        r.state("pick", 0, LETTER);
        r.state("pick", 9, LETTER);
        Doc.says(21, "NULL; INDEX.");
        for (int k : new int[] {-1, 2, MIN, MAX}) {
            r.index("pick", k, 8);
        }
        r.does("tray", 0, 0);
        r.index("pick", 0, 8);
        r = filled();
        r.isNull("pick", 0, 9);
        r.isNull("pick", -1, 9);
        r.state("pick", 0, LETTER);
    }

    private static void trace() {
        Doc.says(36, "Number i of THE TRACE; NONE.");
        Run r = filled();
        r.none("trace", 0);
        r.is(9, "ask", RULE, 2);
        r.are("trace", 20, 3, 7);
        for (int i : new int[] {-1, 3, 59, 60, 61, MIN, MAX}) {
            r.none("trace", i);
        }
    }
}
