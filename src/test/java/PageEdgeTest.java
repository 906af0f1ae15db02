/** Promises 26 to 28 and section 4, sentence by sentence. */
final class PageEdgeTest {
    private static final int MIN = Bench.MIN, MAX = Bench.MAX;
    private static final int WIDOW = 1, ORPHAN = 2, BEYOND = 4;

    public static void main(String[] args) {
        allLines();
        heights();
        notesOnce();
        widow();
        orphan();
        beyond();
        squared();
        more();
        least();
        fewerLines();
        fortyLines();
        manyLines();
        oneLess();
        makeup();
        pagesGo();
        page();
        noteOf();
        Due.end();
    }

    /** LINES of one LETTER each, so many set together at a time; all is one high. */
    private static Run withLines(int... together) {
        Run r = Run.stocked(1, 100);
        for (int words : together) {
            addLines(r, words);
        }
        return r;
    }

    private static void addLines(Run r, int words) {
        r.writeWords(0, words);
        r.is(words, "set", 0, 0, 1);
    }

    /** Single LINES, without a call for each SIGN. */
    private static void addSingles(Run r, int count) {
        r.does("text", 1, 1);
        for (int i = 0; i < count; i++) {
            r.is(1, "set", 1, 0, 1);
        }
    }

    /** How many LINES are due on each page. */
    private static void pages(Run r, int h, int... lines) {
        r.is(lines.length, "makeup", h);
        int first = 0;
        for (int k = 0; k < lines.length; k++) {
            r.is(first, "page", k, 0);
            r.is(lines[k], "page", k, 1);
            first += lines[k];
        }
        r.bad("page", lines.length, 0);
    }

    private static void told(Run r, int... due) {
        for (int k = 0; k < due.length; k++) {
            r.is(due[k], "page", k, 3);
        }
    }

    private static void allLines() {
        Doc.terms("PAGES of a height h are made of all LINES of the GALLEY, in order, at least one LINE each:");
        Run r = withLines(1, 1, 1, 1, 1);
        pages(r, 60, 5);
        pages(r, 5, 5);
        pages(r, 2, 2, 2, 1);
        pages(r, 1, 1, 1, 1, 1, 1);
        r.does("drop", 0);
        r.does("spacing", 0, 3, 2, 1, 3);
        addSingles(r, 2);
        pages(r, 1, 1, 1);
    }

    private static void heights() {
        Doc.terms("it is as high as the HEIGHTS of the LINES (each its FOUNT's then) and of the NOTES that are CALLED in "
                + "them (each paragraph once; as high as is told for it now), together.");
        Run r = Run.stocked(1, 60);
        r.does("fount", 1, 0);
        r.does("spacing", 0, 3, 2, 1, 3);
        r.does("spacing", 1, 3, 2, 1, 2);
        r.write(0, 0, 64 + 5);
        r.does("text", 1, 0);
        r.is(1, "set", 0, 0, 9);
        r.is(1, "set", 1, 1, 9);
        r.is(1, "makeup", 60);
        r.is(3 + 2 + 2, "page", 0, 2);
        r.does("note", 5, 9);
        r.is(7, "page", 0, 2);
        r.is(1, "spacing", 1, 3, 2, 1, 1);
        r.is(1, "makeup", 60);
        r.is(3 + 9 + 2, "page", 0, 2);
        r.is(1, "set", 1, 1, 9);
        r.does("note", 5, 0);
        r.is(1, "makeup", 60);
        r.is(3 + 0 + 2 + 1, "page", 0, 2);
    }

    private static void notesOnce() {
        Run r = Run.stocked(1, 60);
        r.write(0, 66, 66, 32, 66, 67);
        r.is(2, "set", 0, 0, 0);
        r.is(1, "makeup", 60);
        r.is(2 + 2 + 2, "page", 0, 2);
        r.is(2, "page", 0, 4);
        r.is(2, "makeup", 5);
        r.is(1 + 2, "page", 0, 2);
        r.is(1 + 2 + 2, "page", 1, 2);
        r.does("room", 1);
        r.is(2, "note", 2, 9);
        r.does("room", 0);
        r.is(2, "makeup", 5);
        r.is(1 + 2, "page", 0, 2);
    }

    private static void widow() {
        Doc.terms("It is a WIDOW (1), if its first LINE is the last one of two or more that were set together;");
        Run r = withLines(2, 1, 3);
        pages(r, 1, 1, 1, 1, 1, 1, 1);
        told(r, ORPHAN, WIDOW, 0, ORPHAN, 0, WIDOW);
        r = withLines(3);
        pages(r, 2, 2, 1);
        told(r, 0, WIDOW);
    }

    private static void orphan() {
        Doc.terms("an ORPHAN (2), if its last LINE is the first one of two or more that were set together (both as they "
                + "were set, whatever drop() took);");
        Run r = withLines(1, 2);
        pages(r, 1, 1, 1, 1);
        told(r, 0, ORPHAN, WIDOW);
        r.does("drop", 2);
        pages(r, 2, 2);
        told(r, ORPHAN);
        r = withLines(3);
        r.does("drop", 2);
        pages(r, 1, 1, 1);
        told(r, ORPHAN, 0);
        addLines(r, 2);
        pages(r, 1, 1, 1, 1, 1);
        told(r, ORPHAN, 0, ORPHAN, WIDOW);
        r = withLines(2, 2);
        r.is(2, "makeup", 2);
        told(r, 0, 0);
        r = withLines(2, 1, 2);
        r.does("drop", 4);
        r.does("drop", 3);
        r.is(2, "makeup", 2);
        told(r, 0, 0);
    }

    private static void beyond() {
        Doc.terms("BEYOND (4), if it is higher than h: only one of a single LINE may be.");
        Run r = Run.stocked(1, 60);
        r.does("note", 3, 5);
        r.write(0, 67, 32, 64, 32, 67);
        r.does("note", 0, 0);
        r.is(3, "set", 0, 0, 0);
        pages(r, 6, 1, 1, 1);
        told(r, ORPHAN, 0, WIDOW);
        pages(r, 7, 2, 1);
        pages(r, 8, 3);
        Doc.terms("BADNESS: 100000000 and what is beyond, if it is BEYOND;");
        pages(r, 5, 1, 1, 1);
        told(r, ORPHAN + BEYOND, 0, WIDOW + BEYOND);
        pages(r, 1, 1, 1, 1);
        told(r, ORPHAN + BEYOND, 0, WIDOW + BEYOND);
        r.is(6, "page", 0, 2);
    }

    private static void squared() {
        Doc.terms("else (h less its height) squared, of the last page 0;");
        pages(withLines(1, 1, 4), 3, 2, 2, 2);
        pages(withLines(1, 1, 2, 2), 3, 2, 2, 2);
        pages(withLines(1, 1, 1), 2, 2, 1);
        pages(withLines(1, 1, 1, 1), 3, 3, 1);
        pages(withLines(1, 1, 1, 1), 4, 4);
        pages(withLines(1, 1, 1, 1), 60, 4);
    }

    private static void more() {
        Doc.terms("1000000 more for each of WIDOW, ORPHAN.");
        pages(withLines(1, 3), 3, 1, 3);
        pages(withLines(4), 3, 2, 2);
        pages(withLines(1, 3), 2, 2, 2);
        pages(withLines(3), 2, 2, 1);
        pages(withLines(3, 1), 2, 2, 2);
        pages(withLines(1, 3, 3), 2, 2, 2, 2, 1);
        pages(withLines(3, 5), 2, 1, 2, 2, 1, 2);
    }

    private static void least() {
        Doc.terms("With 40 LINES at most the pages have the least BADNESS in all,");
        pages(withLines(1, 1, 1, 1, 3), 3, 2, 2, 3);
        pages(withLines(7), 6, 5, 2);
        pages(withLines(2, 2, 2), 3, 2, 2, 2);
    }

    private static void fewerLines() {
        Doc.terms("of such choices the one that at the first page in which they differ has fewer LINES.");
        pages(withLines(1, 1, 1, 2), 2, 1, 2, 2);
        pages(withLines(3, 2), 2, 1, 2, 2);
        pages(withLines(3, 2, 1), 2, 1, 2, 2, 1);
    }

    /** By BADNESS the first page has two LINES, page by page it would leave a WIDOW and has one. */
    private static void fortyLines() {
        Doc.terms("With 40 LINES at most");
        Run r = withLines(3);
        addSingles(r, 37);
        r.is(40, "told", 4);
        r.is(20, "makeup", 2);
        r.is(2, "page", 0, 1);
        r.is(WIDOW, "page", 1, 3);
        Doc.terms("With more:");
        addSingles(r, 1);
        r.is(21, "makeup", 2);
        r.is(1, "page", 0, 1);
        r.is(ORPHAN, "page", 0, 3);
        r.is(0, "page", 1, 3);
    }

    private static void manyLines() {
        Doc.terms("each page takes LINES as long as it is not BEYOND (one at least);");
        Run r = Run.stocked(1, 60);
        r.does("note", 0, 9);
        r.write(2, 64);
        r.is(1, "set", 2, 0, 0);
        addSingles(r, 40);
        pages(r, 20, 11, 20, 10);
        pages(r, 10, 1, 10, 10, 10, 10);
        r.is(6, "makeup", 9);
        r.is(1, "page", 0, 1);
        r.is(BEYOND, "page", 0, 3);
        r.is(9, "page", 1, 1);
        r.is(4, "page", 5, 1);
        pages(r, 50, 41);
        pages(r, 49, 40, 1);
    }

    private static void oneLess() {
        Doc.terms("if then it is an ORPHAN, or the LINE behind it would be the first of a page that is a WIDOW, and it has "
                + "two LINES or more, it has one less.");
        Run r = Run.stocked(1, 100);
        addSingles(r, 36);
        addLines(r, 5);
        pages(r, 37, 36, 5);
        told(r, 0, 0);
        pages(r, 38, 38, 3);
        pages(r, 40, 39, 2);
        pages(r, 41, 41);
        r.does("drop", 37);
        addSingles(r, 4);
        pages(r, 37, 36, 5);
        r.does("drop", 0);
        addSingles(r, 1);
        addLines(r, 3);
        addSingles(r, 37);
        r.is(14, "makeup", 3);
        r.is(2, "page", 0, 1);
        r.is(ORPHAN, "page", 0, 3);
        r.is(2, "page", 1, 0);
        r.is(41, "makeup", 1);
        r.is(ORPHAN, "page", 1, 3);
        r.is(WIDOW, "page", 3, 3);
        lastOrphan();
    }

    /** Also the last page, where no LINE is behind it. */
    private static void lastOrphan() {
        Run r = Run.stocked(1, 100);
        addSingles(r, 40);
        addLines(r, 2);
        r.does("drop", 41);
        pages(r, 60, 40, 1);
        told(r, 0, ORPHAN);
        r = Run.stocked(1, 100);
        addSingles(r, 18);
        addLines(r, 3);
        addSingles(r, 21);
        pages(r, 10, 10, 9, 10, 10, 3);
        told(r, 0, ORPHAN, 0, 0, 0);
        r.does("drop", 18);
        addSingles(r, 1);
        addLines(r, 3);
        addSingles(r, 20);
        pages(r, 10, 10, 9, 10, 10, 3);
        told(r, 0, 0, 0, 0, 0);
    }

    private static void makeup() {
        Doc.says(26, "PAGES of a height (1 .. 60) are made, in place of those that were: how many.");
        Run r = withLines(3);
        r.is(3, "makeup", 1);
        r.is(3, "told", 5);
        r.is(1, "makeup", 60);
        r.is(1, "told", 5);
        r.bad("page", 1, 0);
        Doc.says(26, "BAD;");
        for (int h : new int[] {0, -1, 61, MIN, MAX}) {
            r.bad("makeup", h);
        }
        r.is(1, "told", 5);
        r.does("room", 1);
        r.bad("makeup", 0);
        Doc.says(26, "STATE: the GALLEY has no LINES.");
        r.state("makeup", 1);
        r.state("makeup", 60);
        r.does("room", 0);
        r.does("drop", 0);
        r.state("makeup", 1);
        r.is(1, "told", 9);
        r.does("undo");
        r.does("lock");
        r.state("makeup", 1);
    }

    private static void pagesGo() {
        Doc.says(26, "(Whatever comes into the GALLEY or goes, PAGES go.)");
        Run r = withLines(3);
        r.is(2, "makeup", 2);
        r.isNull("set", 9, 0, 1);
        r.bad("drop", 3);
        r.is(2, "told", 5);
        addLines(r, 1);
        r.is(0, "told", 5);
        r.state("lock");
        r.is(2, "makeup", 2);
        r.does("drop", 3);
        r.is(0, "told", 5);
        r.does("undo");
        r.is(2, "told", 5);
        r.does("lock");
        r.is(0, "told", 5);
        r.bad("page", 0, 0);
    }

    private static void page() {
        Run r = Run.stocked(1, 60);
        r.write(0, 0, 65, 32, 0, 66, 67, 32, 0);
        r.is(3, "set", 0, 0, 1);
        pages(r, 4, 1, 1, 1);
        String[] words = {
            "Of a PAGE, as it was made: what = 0 its first LINE,", "1 how many LINES,", "2 its height,",
            "3 how it is told (WIDOW, ORPHAN, BEYOND added up),", "4 how many NOTES.",
        };
        int[][] due = {{0, 1, 2}, {1, 1, 1}, {3, 5, 1}, {ORPHAN, BEYOND, WIDOW}, {1, 2, 0}};
        for (int what = 0; what < 5; what++) {
            Doc.says(27, words[what]);
            for (int k = 0; k < 3; k++) {
                r.is(due[what][k], "page", k, what);
            }
        }
        Doc.says(27, "as it was made:");
        r.does("note", 1, 9);
        r.does("text", 0, -1);
        r.is(3, "page", 0, 2);
        r.is(1, "noteOf", 0, 0);
        Doc.says(27, "BAD.");
        for (int k : new int[] {-1, 3, MIN, MAX}) {
            for (int what = 0; what < 5; what++) {
                r.is(Bench.BAD, "page", k, what);
            }
        }
        for (int what : new int[] {-1, 5, MIN, MAX}) {
            r.bad("page", 0, what);
        }
        r.does("room", 1);
        r.bad("page", 0, 0);
    }

    private static void noteOf() {
        Doc.says(28, "The i-th NOTE of a PAGE, as they are CALLED first: its paragraph; NONE.");
        Run r = Run.stocked(1, 60);
        r.write(0, 75, 70, 75, 32, 64, 70, 32, 75, 32);
        r.does("text", 1, 0);
        r.is(3, "set", 0, 0, 0);
        r.is(1, "makeup", 60);
        int[] due = {11, 6, 0};
        for (int i = 0; i < 3; i++) {
            r.is(due[i], "noteOf", 0, i);
        }
        for (int i : new int[] {-1, 3, 12, MIN, MAX}) {
            r.none("noteOf", 0, i);
        }
        r.does("drop", 0);
        r.does("set", 1, 0, 0);
        r.is(1, "makeup", 60);
        r.none("noteOf", 0, 0);
        Doc.says(28, "BAD: no such PAGE.");
        for (int k : new int[] {-1, 1, MIN, MAX}) {
            r.bad("noteOf", k, 0);
            r.bad("noteOf", k, -1);
        }
    }
}
