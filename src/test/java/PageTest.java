/** Promises 26 to 28: pages and their notes. */
final class PageTest {
    public static void main(String[] args) {
        makeup();
        pagesGo();
        page();
        notes();
        heightOfNotesNow();
        heightOfLinesThen();
        beyond();
        widowsAndOrphans();
        asTheyWereSet();
        tiesGoToFewerLines();
        lastPageIsFree();
        manyLines();
        manyLinesAndBeyond();
        fortyLinesAndOneMore();
        Due.end();
    }

    private static TypeRoom withLines(int... together) {
        TypeRoom x = Bench.stocked(1);
        for (int words : together) {
            addLines(x, words);
        }
        return x;
    }

    private static void addLines(TypeRoom x, int words) {
        Bench.writeWords(x, 0, words);
        Due.is("set of words", x.set(0, 0, 1), words);
    }

    private static void counts(TypeRoom x, int h, int... lines) {
        Due.is("makeup(" + h + ")", x.makeup(h), lines.length);
        Due.is("told(5)", x.told(5), lines.length);
        int first = 0;
        for (int k = 0; k < lines.length; k++) {
            Due.is("page(" + k + ", 0)", x.page(k, 0), first);
            Due.is("page(" + k + ", 1)", x.page(k, 1), lines[k]);
            first += lines[k];
        }
    }

    private static void makeup() {
        TypeRoom x = Bench.stocked(1);
        Due.is("makeup(0)", x.makeup(0), Bench.BAD);
        Due.is("makeup(61)", x.makeup(61), Bench.BAD);
        Due.is("makeup(MIN)", x.makeup(Bench.MIN), Bench.BAD);
        Due.is("makeup(1)", x.makeup(1), Bench.STATE);
        Due.is("told(9)", x.told(9), 0);
        x.text(0, 1);
        x.set(0, 0, 1);
        Due.is("makeup(1)", x.makeup(1), 1);
        Due.is("makeup(60)", x.makeup(60), 1);
        Due.is("told(9)", x.told(9), 1);
        Due.is("status()", x.status(), 0);
    }

    private static void pagesGo() {
        TypeRoom x = withLines(4);
        x.makeup(2);
        Due.is("told(5)", x.told(5), 2);
        addLines(x, 1);
        Due.is("told(5) after set()", x.told(5), 0);
        Due.is("page(0, 0)", x.page(0, 0), Bench.BAD);
        Due.is("undo()", x.undo(), 1);
        Due.is("told(5)", x.told(5), 2);
        x.makeup(9);
        Due.is("told(5) of the next ones", x.told(5), 1);
        Due.is("undo()", x.undo(), 1);
        Due.is("told(5) of the former ones", x.told(5), 2);
        x.drop(3);
        Due.is("told(5) after drop()", x.told(5), 0);
        x.undo();
        x.set(9, 0, 1);
        Due.is("told(5) after a fault", x.told(5), 2);
    }

    private static void page() {
        TypeRoom x = withLines(4);
        x.makeup(2);
        x.text(0, -2);
        Due.is("page(-1, 0)", x.page(-1, 0), Bench.BAD);
        Due.is("page(2, 0)", x.page(2, 0), Bench.BAD);
        Due.is("page(0, -1)", x.page(0, -1), Bench.BAD);
        Due.is("page(0, 5)", x.page(0, 5), Bench.BAD);
        int[][] due = {{0, 2, 2, 0, 0}, {2, 2, 2, 0, 0}};
        for (int k = 0; k < 2; k++) {
            for (int what = 0; what < 5; what++) {
                Due.is("page(" + k + ", " + what + ")", x.page(k, what), due[k][what]);
            }
        }
        Due.is("noteOf(-1, 0)", x.noteOf(-1, 0), Bench.BAD);
        Due.is("noteOf(2, 0)", x.noteOf(2, 0), Bench.BAD);
        Due.is("noteOf(0, 0)", x.noteOf(0, 0), Bench.NONE);
        Due.is("noteOf(0, -1)", x.noteOf(0, -1), Bench.NONE);
        Due.is("status() is not changed by page(), noteOf()", x.status(), Bench.SIZE);
    }

    private static void notes() {
        TypeRoom x = Bench.stocked(1);
        x.note(5, 3);
        x.note(0, 0);
        Bench.write(x, 0, 75, 0, 69, 32, 0, 69, 64, 32, 0, 75);
        Due.is("set(0, 0, 1)", x.set(0, 0, 1), 3);
        Due.is("makeup(60)", x.makeup(60), 1);
        Due.is("page(0, 2): each note once", x.page(0, 2), 3 + 2 + 3 + 0);
        Due.is("page(0, 4)", x.page(0, 4), 3);
        Due.is("noteOf(0, 0)", x.noteOf(0, 0), 11);
        Due.is("noteOf(0, 1)", x.noteOf(0, 1), 5);
        Due.is("noteOf(0, 2)", x.noteOf(0, 2), 0);
        Due.is("noteOf(0, 3)", x.noteOf(0, 3), Bench.NONE);
        Due.is("makeup(7)", x.makeup(7), 2);
        Due.is("page(0, 1)", x.page(0, 1), 2);
        Due.is("page(0, 2)", x.page(0, 2), 7);
        Due.is("page(1, 2): on the next page once more", x.page(1, 2), 3);
        Due.is("page(1, 4)", x.page(1, 4), 1);
        Due.is("noteOf(1, 0)", x.noteOf(1, 0), 11);
    }

    private static void heightOfNotesNow() {
        TypeRoom x = Bench.stocked(1);
        Bench.write(x, 0, 0, 66);
        x.set(0, 0, 1);
        x.note(2, 9);
        x.makeup(20);
        Due.is("page(0, 2)", x.page(0, 2), 10);
        x.note(2, 1);
        Due.is("page(0, 2), as it was made", x.page(0, 2), 10);
        x.makeup(20);
        Due.is("page(0, 2)", x.page(0, 2), 2);
    }

    private static void heightOfLinesThen() {
        TypeRoom x = Bench.stocked(1);
        x.text(0, 0);
        x.spacing(0, 3, 2, 1, 3);
        x.set(0, 0, 1);
        Due.is("spacing() with a line without sorts", x.spacing(0, 3, 2, 1, 1), 1);
        x.set(0, 0, 1);
        x.makeup(9);
        Due.is("page(0, 2)", x.page(0, 2), 4);
    }

    private static void beyond() {
        TypeRoom x = Bench.stocked(1);
        x.note(1, 9);
        Bench.write(x, 0, 0, 32, 0, 65, 32, 0);
        x.set(0, 0, 1);
        counts(x, 5, 1, 1, 1);
        Due.is("page(0, 3)", x.page(0, 3), 2);
        Due.is("page(1, 3)", x.page(1, 3), 4);
        Due.is("page(1, 2)", x.page(1, 2), 10);
        Due.is("page(2, 3)", x.page(2, 3), 1);
        Bench.write(x, 0, 0, 65, 32, 0, 65);
        x.drop(0);
        x.set(0, 0, 1);
        counts(x, 9, 1, 1);
        Due.is("page(0, 3)", x.page(0, 3), 6);
        Due.is("page(1, 3)", x.page(1, 3), 5);
        counts(x, 10, 1, 1);
        Due.is("page(0, 3)", x.page(0, 3), 2);
        counts(x, 11, 2);
        Due.is("page(0, 3): the note is there once", x.page(0, 3), 0);
    }

    private static void widowsAndOrphans() {
        TypeRoom x = withLines(3, 1, 4);
        counts(x, 3, 3, 3, 2);
        Due.is("page(0, 3)", x.page(0, 3), 0);
        Due.is("page(1, 3)", x.page(1, 3), 0);
        counts(x, 2, 2, 2, 2, 2);
        Due.is("page(1, 3): its first line is the last of three", x.page(1, 3), 1);
        counts(x, 5, 4, 4);
        x = withLines(1, 1, 1);
        counts(x, 1, 1, 1, 1);
        for (int k = 0; k < 3; k++) {
            Due.is("page(k, 3): of lines set alone", x.page(k, 3), 0);
        }
        x = withLines(2);
        counts(x, 1, 1, 1);
        Due.is("page(0, 3)", x.page(0, 3), 2);
        Due.is("page(1, 3)", x.page(1, 3), 1);
    }

    private static void asTheyWereSet() {
        TypeRoom x = withLines(2, 3);
        x.drop(3);
        counts(x, 2, 2, 1);
        Due.is("page(1, 3): an orphan whatever drop() took", x.page(1, 3), 2);
        counts(x, 3, 3);
        Due.is("page(0, 3)", x.page(0, 3), 2);
        addLines(x, 1);
        counts(x, 4, 4);
        Due.is("page(0, 3)", x.page(0, 3), 0);
    }

    private static void tiesGoToFewerLines() {
        TypeRoom x = withLines(1, 1, 1, 1);
        counts(x, 3, 3, 1);
        x = withLines(1, 1, 1, 1, 1);
        counts(x, 3, 3, 2);
        x = withLines(3, 2);
        counts(x, 2, 1, 2, 2);
        Due.is("page(0, 3)", x.page(0, 3), 2);
    }

    private static void lastPageIsFree() {
        TypeRoom x = withLines(1, 1, 1, 1, 1, 1, 1);
        counts(x, 6, 6, 1);
        counts(x, 5, 5, 2);
        counts(x, 7, 7);
        counts(x, 60, 7);
        x = withLines(7);
        counts(x, 6, 5, 2);
        Due.is("page(0, 2)", x.page(0, 2), 5);
    }

    private static void manyLines() {
        TypeRoom x = withLines(20, 20);
        counts(x, 19, 18, 19, 3);
        x = withLines(20, 20, 1);
        counts(x, 19, 18, 19, 4);
        Due.is("page(0, 3)", x.page(0, 3), 0);
        x = withLines(20, 20, 4);
        counts(x, 21, 20, 20, 4);
        counts(x, 1, ones(44));
        Due.is("page(0, 3)", x.page(0, 3), 2);
        Due.is("page(19, 3)", x.page(19, 3), 1);
        Due.is("page(43, 3)", x.page(43, 3), 1);
        x.drop(41);
        counts(x, 41, 40, 1);
        Due.is("page(1, 3): an orphan at the end", x.page(1, 3), 2);
    }

    /** Three LINES together and single ones: page by page the first page would leave a WIDOW, and has one less. */
    private static void fortyLinesAndOneMore() {
        TypeRoom x = withLines(3);
        for (int i = 3; i < 40; i++) {
            addLines(x, 1);
        }
        Due.is("makeup(2) of 40 lines", x.makeup(2), 20);
        Due.is("page(0, 1)", x.page(0, 1), 2);
        Due.is("page(1, 3)", x.page(1, 3), 1);
        addLines(x, 1);
        Due.is("makeup(2) of 41 lines", x.makeup(2), 21);
        Due.is("page(0, 1)", x.page(0, 1), 1);
        Due.is("page(0, 3)", x.page(0, 3), 2);
        Due.is("page(1, 3)", x.page(1, 3), 0);
    }

    private static int[] ones(int n) {
        int[] row = new int[n];
        java.util.Arrays.fill(row, 1);
        return row;
    }

    private static void manyLinesAndBeyond() {
        TypeRoom x = withLines(20, 20);
        x.note(3, 9);
        Bench.write(x, 1, 0, 67, 32, 0, 67, 32, 0);
        Due.is("set(1, 0, 1)", x.set(1, 0, 1), 3);
        counts(x, 20, 20, 20, 3);
        Due.is("page(2, 2)", x.page(2, 2), 12);
        x.makeup(8);
        Due.is("page(5, 0)", x.page(5, 0), 40);
        Due.is("page(5, 1)", x.page(5, 1), 1);
        Due.is("page(5, 3)", x.page(5, 3), 6);
        Due.is("page(6, 3)", x.page(6, 3), 4);
        Due.is("page(7, 3)", x.page(7, 3), 1);
    }
}
