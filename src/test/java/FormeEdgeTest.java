/** Promises 29 to 32 and the NUMBERS of section 1, sentence by sentence. */
final class FormeEdgeTest {
    private static final int MIN = Bench.MIN, MAX = Bench.MAX;

    public static void main(String[] args) {
        numbers();
        lock();
        lockState();
        twelveFormes();
        fourHundredNumbers();
        forme();
        print();
        printWrapsAround();
        printBad();
        distribute();
        distributeBad();
        Due.end();
    }

    /** So many PAGES of one LINE of LETTER 0 each. */
    private static void makePages(Run r, int pages) {
        r.writeWords(0, pages);
        r.is(pages, "set", 0, 0, 1);
        r.is(pages, "makeup", 1);
    }

    private static void numbers() {
        Doc.terms("FORMES get NUMBERS from 1 on, by the house for both rooms, each once, 400 at most, whatever is undone.");
        Run r = Run.stocked(1, 20);
        makePages(r, 2);
        r.is(1, "lock");
        r.does("undo");
        r.is(0, "told", 6);
        r.is(2, "told", 7);
        r.is(3, "lock");
        r.is(3, "forme", 0);
        r.is(4, "forme", 1);
        r.does("room", 1);
        r.is(4, "told", 7);
        r.is(0, "told", 6);
        r.stock(0, 1, 20);
        makePages(r, 1);
        r.is(5, "lock");
        r.is(5, "forme", 0);
        r.does("room", 0);
        r.does("distribute", 4);
        makePages(r, 1);
        r.is(6, "lock");
        r.is(6, "forme", 1);
        r.is(6, "told", 7);
    }

    private static void lock() {
        Doc.says(29, "All PAGES become FORMES, behind those that there are, with the next NUMBERS; the GALLEY has no LINES, "
                + "there are no PAGES: the first NUMBER.");
        Run r = Run.stocked(2, 20);
        r.write(1, 1);
        r.does("set", 1, 0, 1);
        r.does("makeup", 1);
        r.is(1, "lock");
        makePages(r, 3);
        r.is(2, "lock");
        for (int i = 0; i < 4; i++) {
            r.is(i + 1, "forme", i);
        }
        r.none("forme", 4);
        r.is(0, "told", 4);
        r.is(0, "told", 5);
        r.is(4, "told", 6);
        r.is(4, "told", 7);
        r.is(4, "told", 3);
        r.bad("line", 0, 0);
        r.bad("page", 0, 0);
        r.is(31 * 17 + 10, "print", 1);
        r.is(31 * 17 + 7, "print", 4);
    }

    private static void lockState() {
        Doc.says(29, "STATE: there are none;");
        Run r = Run.stocked(1, 20);
        r.state("lock");
        r.does("text", 0, 1);
        r.does("set", 0, 0, 1);
        r.state("lock");
        r.does("makeup", 1);
        r.does("set", 0, 0, 1);
        r.state("lock");
        r.does("makeup", 1);
        r.is(1, "lock");
        r.state("lock");
        r.is(2, "told", 7);
        r.does("room", 1);
        r.state("lock");
    }

    private static void twelveFormes() {
        Doc.says(29, "FULL: there would be more than 12 FORMES in this ROOM,");
        Run r = Run.stocked(1, 60);
        makePages(r, 13);
        r.full("lock");
        r.is(13, "told", 5);
        r.is(0, "told", 7);
        r.does("drop", 12);
        r.does("makeup", 1);
        r.is(1, "lock");
        r.is(12, "told", 6);
        makePages(r, 1);
        r.full("lock");
        r.is(1, "told", 4);
        r.does("distribute", 12);
        r.is(13, "lock");
        r.is(13, "forme", 11);
        makePages(r, 2);
        r.full("lock");
        r.does("distribute", 1);
        r.full("lock");
        r.does("room", 1);
        r.stock(0, 1, 9);
        makePages(r, 1);
        r.is(14, "lock");
    }

    private static void fourHundredNumbers() {
        Doc.says(29, "or more than 400 NUMBERS.");
        Run r = Run.stocked(1, 60);
        makePages(r, 12);
        for (int i = 0; i < 33; i++) {
            r.is(12 * i + 1, "lock");
            r.does("undo");
        }
        r.full("lock");
        r.is(396, "told", 7);
        r.does("drop", 5);
        r.is(5, "makeup", 1);
        r.full("lock");
        r.does("drop", 4);
        r.is(4, "makeup", 1);
        r.is(397, "lock");
        r.is(400, "forme", 3);
        r.is(400, "told", 7);
        r.does("undo");
        r.full("lock");
        r.does("room", 1);
        r.does("fount", 0, 0);
        r.does("text", 0, 0);
        r.does("set", 0, 0, 0);
        r.does("makeup", 1);
        r.full("lock");
        r.is(400, "told", 7);
    }

    private static void forme() {
        Doc.says(30, "The NUMBER of the i-th FORME of this ROOM; NONE.");
        Run r = Run.stocked(1, 20);
        r.none("forme", 0);
        makePages(r, 3);
        r.none("forme", 0);
        r.does("lock");
        r.are("forme", 1, 2, 3);
        for (int i : new int[] {-1, 3, 12, MIN, MAX}) {
            r.none("forme", i);
        }
        r.does("distribute", 1);
        r.are("forme", 2, 3);
        r.none("forme", 2);
        r.does("undo");
        r.are("forme", 1, 2, 3);
        r.does("distribute", 2);
        r.are("forme", 1, 3);
        r.does("distribute", 3);
        r.are("forme", 1);
        r.does("room", 1);
        r.none("forme", 0);
    }

    private static void print() {
        Doc.says(31, "A FORME of this ROOM is printed: D is 17; for each SORT of its LINES, in order, D becomes 31 D and its "
                + "INK, or of a SPACE what WIDE gives.");
        Run r = Run.stocked(3, 60);
        r.does("join", 0, 1, 2, -1, 4);
        r.does("buy", 0, 1, 0, 9);
        r.does("ornament", 0, 2, 8);
        r.does("text", 0, 0);
        r.write(1, 2, 32, 1, 2, 61, 98, 94, 1, 0, 32, 2, 2, 2, 2, 2, 2, 2, 2, 2, 2, 2, 2, 2, 2, 2, 2, 2, 2, 2, 1, 0, 0);
        r.is(1, "set", 0, 0, 22);
        r.is(2, "set", 1, 0, 22);
        r.is(2, "sortOf", 1, 1, 2);
        r.is(3, "sortOf", 1, 3, 2);
        r.is(1, "makeup", 60);
        r.is(1, "lock");
        long d = 17;
        int[] first = {13, 3 + 2, 10 + 100, 9 + 3, 8 + 9, 5 * 10 + 7};
        for (int more : first) {
            d = 31 * d + more;
        }
        for (int i = 0; i < 19; i++) {
            d = 31 * d + 13;
        }
        d = 31 * d + 10;
        d = 31 * d + 7;
        r.is(31 * d + 7, "print", 1);
        r.does("text", 2, 0);
        r.does("set", 2, 0, 1);
        r.does("makeup", 1);
        r.is(2, "lock");
        r.is(17, "print", 2);
    }

    private static void printWrapsAround() {
        Run r = Run.stocked(1, 60);
        r.does("text", 0, 40);
        r.does("set", 0, 0, 300);
        r.does("makeup", 1);
        r.does("lock");
        long d = 17;
        for (int i = 0; i < 40; i++) {
            d = 31 * d + 7;
        }
        r.is(d, "print", 1);
        r.is(40, "told", 8);
        r.is(d, "print", 1);
    }

    private static void printBad() {
        Doc.says(31, "0: BAD: no such FORME here.");
        Run r = Run.stocked(1, 20);
        r.bad("print", 1);
        makePages(r, 2);
        r.bad("print", 1);
        r.does("lock");
        for (int number : new int[] {0, -1, 3, MIN, MAX}) {
            r.bad("print", number);
        }
        r.is(31 * 17 + 7, "print", 2);
        r.is(0, "status");
        r.does("distribute", 2);
        r.bad("print", 2);
        r.does("undo");
        r.is(31 * 17 + 7, "print", 2);
        r.does("room", 1);
        r.bad("print", 1);
    }

    private static void distribute() {
        Doc.says(32, "The SORTS of a FORME go back to their BOXES, and it is no more: how many SORTS.");
        Run r = Run.stocked(2, 20);
        r.does("join", 0, 1, 1, -1, 2);
        r.does("buy", 0, 1, 0, 20);
        r.write(1, 94, 0, 1, 32, 1, 1, 61, 99);
        r.does("set", 1, 0, 300);
        r.does("set", 1, 0, 300);
        r.is(1, "makeup", 2);
        r.is(1, "lock");
        makePages(r, 1);
        r.is(2, "lock");
        r.is(13, "told", 3);
        r.is(12, "distribute", 1);
        r.is(1, "told", 3);
        r.is(1, "told", 6);
        r.is(19, "left", 0, 0, 0);
        r.is(20, "left", 0, 0, 1);
        r.is(20, "left", 0, 1, 0);
        r.is(20, "left", 0, 2, 0);
        r.is(20, "left", 0, 3, 0);
        r.is(20, "left", 0, 4, 3);
        r.is(2, "forme", 0);
        r.is(1, "distribute", 2);
        r.is(0, "told", 3);
        r.does("text", 2, 0);
        r.does("set", 2, 0, 1);
        r.does("makeup", 1);
        r.is(3, "lock");
        r.is(0, "distribute", 3);
        r.is(0, "told", 6);
    }

    private static void distributeBad() {
        Doc.says(32, "BAD.");
        Run r = Run.stocked(1, 20);
        r.bad("distribute", 1);
        makePages(r, 2);
        r.bad("distribute", 1);
        r.does("lock");
        for (int number : new int[] {0, -1, 3, MIN, MAX}) {
            r.bad("distribute", number);
        }
        r.is(1, "distribute", 2);
        r.bad("distribute", 2);
        r.does("room", 1);
        r.bad("distribute", 1);
        r.does("room", 0);
        r.is(1, "distribute", 1);
    }
}
