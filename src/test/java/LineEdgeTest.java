/** Promises 22 to 25 and section 3, sentence by sentence. The FOUNT is as it is bought, if nothing else is told. */
final class LineEdgeTest {
    private static final int MIN = Bench.MIN, MAX = Bench.MAX;

    public static void main(String[] args) {
        breaks();
        sortsOfLines();
        widths();
        kerns();
        fits();
        badness();
        least();
        earlier();
        tight();
        nothingAdded();
        stretched();
        loose();
        zero();
        shrunk();
        galley();
        set();
        setFull();
        setFaults();
        setEmpty();
        drop();
        line();
        sortOf();
        Due.end();
    }

    /** Sets the SIGNS as paragraph 0: so many LINES are due, with so many SORTS each. */
    private static void sets(Run r, int m, int[] signs, int... sorts) {
        r.write(0, signs);
        r.is(sorts.length, "set", 0, 0, m);
        for (int l = 0; l < sorts.length; l++) {
            r.is(sorts[l], "line", l, 3);
        }
    }

    private static void setsOnce(Run r, int m, int[] signs, int... sorts) {
        sets(r, m, signs, sorts);
        r.does("drop", 0);
    }

    private static int[] signs(int... signs) {
        return signs;
    }

    /** ADDED of the SORTS of a LINE. */
    private static void added(Run r, int l, int... due) {
        for (int k = 0; k < due.length; k++) {
            r.is(due[k], "sortOf", l, k, 2);
        }
        r.is(due.length, "line", l, 3);
    }

    private static void breaks() {
        Doc.terms("A paragraph of n SIGNS may BREAK behind a SPACE and behind a HYPHEN (but not behind its last SIGN);");
        Run r = Run.stocked(2, 60);
        setsOnce(r, 1, signs(1, 32, 1), 1, 1);
        setsOnce(r, 2, signs(1, 45, 1, 1), 2, 2);
        setsOnce(r, 1, signs(1, 32), 2);
        setsOnce(r, 0, signs(32), 1);
        setsOnce(r, 0, signs(1, 45), 1);
        setsOnce(r, 0, signs(45), 0);
        setsOnce(r, 0, signs(32, 32), 0, 1);
        setsOnce(r, 0, signs(1, 61, 1, 96, 1, 64, 94, 1, 1, 1), 7);
        setsOnce(r, 0, signs(32, 64), 0, 0);
        for (int sign : new int[] {1, 61, 64, 96}) {
            r.write(0, 1, sign, 1, 1, 1);
            r.is(1, "set", 0, 0, 3);
            r.does("drop", 0);
        }
        setsOnce(r, 2, signs(94, 1, 1, 1, 1), 3);
        Doc.terms("it ends behind its last SIGN (one of 0 SIGNS is one LINE; LINES may have no SORTS).");
        setsOnce(r, 0, signs(), 0);
        setsOnce(r, 300, signs(), 0);
        setsOnce(r, 1, signs(32, 1), 0, 1);
        setsOnce(r, 1, signs(64, 65, 66), 0);
        setsOnce(r, 1, signs(1, 32, 32, 1), 1, 0, 1);
    }

    private static void sortsOfLines() {
        Doc.terms("A LINE has what was READ from its beginning to its end, in order;");
        Run r = Run.stocked(3, 60);
        sets(r, 7, signs(1, 61, 97, 32, 2, 32, 94, 0, 1, 1), 5, 2);
        int[][] kinds = {{0, 3, 4, 2, 0}, {5, 0}};
        int[][] codes = {{1, 0, 1, 0, 2}, {0, 1}};
        for (int l = 0; l < 2; l++) {
            for (int k = 0; k < kinds[l].length; k++) {
                r.is(kinds[l][k], "sortOf", l, k, 0);
                r.is(codes[l][k], "sortOf", l, k, 1);
            }
        }
        Doc.terms("if it ends at a BREAK: behind a SPACE without that, behind a HYPHEN with LETTER 0 besides, at its end "
                + "(else HYPHENS and CALLS are no SORTS).");
        r = Run.stocked(3, 60);
        setsOnce(r, 4, signs(1, 32, 32, 1), 2, 1);
        sets(r, 3, signs(1, 64, 1, 45, 2, 2, 2), 3, 3);
        r.is(1, "sortOf", 0, 1, 1);
        r.is(0, "sortOf", 0, 2, 0);
        r.is(0, "sortOf", 0, 2, 1);
        r.is(1, "line", 0, 7);
        r.is(59, "left", 0, 0, 0);
        r.does("drop", 0);
        setsOnce(r, 300, signs(1, 45, 64, 1, 45, 75, 1, 45), 3);
        sets(r, 1, signs(45, 1), 1);
        r.is(1, "sortOf", 0, 0, 1);
        r.does("drop", 0);
        setsOnce(r, 1, signs(45, 32, 1), 0, 1);
    }

    private static void widthOf(Run r, int due, int... signs) {
        r.write(0, signs);
        r.is(1, "set", 0, 0, 300);
        r.is(due, "line", 0, 4);
        r.does("drop", 0);
    }

    private static void widths() {
        Doc.terms("Its WIDTH: the WIDES of its SORTS (ADDED 0),");
        Run r = Run.stocked(2, 60);
        r.does("width", 0, 0, 4);
        r.does("width", 0, 1, 9);
        r.does("ornament", 0, 2, 7);
        r.does("join", 0, 1, 0, -1, 20);
        r.does("buy", 0, 1, 0, 9);
        widthOf(r, 0);
        widthOf(r, 4, 0);
        widthOf(r, 4 + 9, 0, 1);
        widthOf(r, 20, 1, 0);
        widthOf(r, 3, 32);
        widthOf(r, 0, 61);
        widthOf(r, 7 + 2, 98, 97);
        widthOf(r, 9, 94, 0, 1);
        widthOf(r, 9, 94, 1, 0);
        widthOf(r, 0, 45, 64);
        r.write(0, 1, 45, 1, 1);
        r.is(2, "set", 0, 0, 18);
        r.is(13, "line", 0, 4);
        r.is(18, "line", 1, 4);
    }

    private static void kerns() {
        Doc.terms("and for each two LETTERS or JOINED ones of which the second comes next (HYPHENS and CALLS do not part "
                + "them; LETTER 0 at a HYPHEN counts, too), the KERN of the LETTER with which the first one ends and "
                + "that with which the second begins:");
        Run r = Run.stocked(4, 60);
        r.does("join", 0, 1, 2, -1, 5);
        r.does("join", 0, 3, 2, 1, 5);
        r.does("buy", 0, 1, 0, 9);
        r.does("buy", 0, 1, 1, 9);
        for (int a = 0; a < 4; a++) {
            r.does("kernRow", 0, a, 4);
        }
        r.does("kern", 0, 0, 0, 1);
        r.does("kern", 0, 0, 1, 2);
        r.does("kern", 0, 1, 0, 3);
        r.does("kern", 0, 2, 0, 4);
        r.does("kern", 0, 2, 1, 6);
        r.does("kern", 0, 1, 3, 7);
        r.does("kern", 0, 1, 2, 9);
        r.does("kern", 0, 0, 3, -2);
        widthOf(r, 2 + 1, 0, 0);
        widthOf(r, 3 + 1 + 2, 0, 0, 1);
        widthOf(r, 1 + 5 + 2, 0, 1, 2);
        widthOf(r, 5 + 1 + 4, 1, 2, 0);
        widthOf(r, 5 + 1 + 3, 3, 2, 1, 0);
        widthOf(r, 1 + 5 - 2, 0, 3, 2, 1);
        widthOf(r, 5 + 5 + 6, 1, 2, 1, 2);
        widthOf(r, 5 + 5 + 7, 3, 2, 1, 3, 2, 1);
        widthOf(r, 2 + 2, 0, 45, 1);
        widthOf(r, 2 + 2, 0, 64, 45, 45, 75, 1);
        widthOf(r, 2 + 3, 0, 32, 1);
        widthOf(r, 2 + 0, 0, 61, 1);
        widthOf(r, 2 + 2, 0, 96, 1);
        widthOf(r, 2 + 1, 0, 94, 0, 1, 1);
        r.write(0, 2, 45, 1, 1, 1, 1, 1);
        r.is(2, "set", 0, 0, 6);
        r.is(1 + 1 + 4, "line", 0, 4);
        r.is(5, "line", 1, 4);
        Doc.terms("number b of the ROW of KERNS of a; 0 if that is NOTHING or too short.");
        shortRows();
    }

    private static void shortRows() {
        Run r = Run.stocked(3, 60);
        widthOf(r, 2, 0, 2);
        r.does("kernRow", 0, 0, 3);
        r.does("kern", 0, 0, 2, -9);
        r.does("kern", 0, 0, 1, 5);
        widthOf(r, 2 - 9, 0, 2);
        widthOf(r, 2 + 5, 0, 1);
        widthOf(r, 2, 2, 0);
        r.does("kernRow", 0, 0, 2);
        r.does("kern", 0, 0, 1, 5);
        widthOf(r, 2, 0, 2);
        widthOf(r, 2 + 5, 0, 1);
        r.does("kernRow", 0, 0, 0);
        widthOf(r, 2, 0, 1);
        r.does("kernRow", 0, 0, -1);
        widthOf(r, 2, 0, 1);
    }

    private static void told(Run r, int m, int[] signs, int how, int badness) {
        r.write(0, signs);
        r.does("set", 0, 0, m);
        r.is(how, "line", 0, 6);
        r.is(badness, "line", 0, 9);
        r.does("drop", 0);
    }

    private static void fits() {
        Doc.terms("With the MEASURE m, u is m less the WIDTH, w is how many SPACES it has, s the SHARES of its SPACES and "
                + "RULES together. It FITS, if u is not below 0 less SHRINK times w.");
        Run r = Run.stocked(1, 60);
        told(r, 3, signs(0, 32), 0, 1);
        told(r, 2, signs(0, 32), 2, 10000002);
        told(r, 7, signs(0, 0, 0, 32, 32), 0, 4);
        setsOnce(r, 6, signs(0, 0, 0, 32, 32), 3, 1);
        told(r, 1, signs(0, 0), 2, 10000001);
        told(r, 2, signs(0, 0), 0, 0);
        told(r, 1, signs(0, 61, 0), 2, 10000001);
        told(r, 3, signs(0, 61, 32, 61), 0, 1);
        r.does("spacing", 0, 3, 2, 0, 1);
        told(r, 4, signs(0, 32), 0, 0);
        told(r, 3, signs(0, 32), 2, 10000001);
        r.does("spacing", 0, 9, 2, 9, 1);
        told(r, 1, signs(0, 32), 0, 81);
        told(r, 0, signs(0, 32), 2, 10000010);
    }

    private static void badness() {
        Doc.terms("BADNESS: if it does not fit, 10000000 less u;");
        Run r = Run.stocked(2, 60);
        told(r, 0, signs(0, 0, 0), 2, 10000003);
        told(r, 1, signs(0, 0, 32, 0), 2, 10000001);
        setsOnce(r, 1, signs(1, 45, 1), 2, 1);
        told(r, 1, signs(1, 45, 1), 2, 10000001);
        Doc.terms("else of the last LINE 0, or if u is below 0, u times u;");
        told(r, 300, signs(0, 32, 0), 0, 0);
        told(r, 5, signs(0, 32, 0), 0, 0);
        told(r, 4, signs(0, 32, 0), 0, 1);
        r.does("spacing", 0, 9, 2, 9, 1);
        told(r, 6, signs(0, 32, 0), 0, 25);
        r = Run.stocked(2, 60);
        Doc.terms("of others u times u, 1000 more if u is above STRETCH times s, 50 more if it ends at a HYPHEN.");
        told(r, 4, signs(0, 32, 0, 32, 0, 0, 0, 0), 0, 1);
        told(r, 5, signs(0, 32, 0, 32, 0, 0, 0, 0, 0), 0, 0);
        told(r, 6, signs(0, 32, 0, 32, 0, 0, 0, 0, 0, 0), 0, 1);
        told(r, 7, signs(0, 32, 0, 32, 0, 0, 0, 0, 0, 0, 0), 0, 4);
        told(r, 8, signs(0, 32, 0, 32, 0, 0, 0, 0, 0, 0, 0, 0), 1, 1009);
        told(r, 8, signs(0, 61, 0, 32, 0, 0, 0, 0, 0, 0), 0, 36);
        told(r, 9, signs(0, 61, 0, 32, 0, 0, 0, 0, 0, 0), 1, 1049);
        told(r, 1, signs(0, 32, 0), 0, 0);
        told(r, 2, signs(0, 32, 0, 0), 3, 1001);
        hyphens(r);
    }

    private static void hyphens(Run r) {
        told(r, 3, signs(1, 1, 45, 1, 1, 1), 0, 50);
        told(r, 4, signs(1, 1, 45, 1, 1, 1, 1), 3, 1051);
        told(r, 5, signs(1, 32, 45, 1, 1, 1, 1, 1), 0, 50);
        told(r, 4, signs(1, 32, 45, 1, 1, 1, 1), 0, 51);
        told(r, 7, signs(1, 32, 45, 1, 1, 1, 1, 1, 1, 1), 0, 54);
        told(r, 8, signs(1, 61, 45, 1, 1, 1, 1, 1, 1, 1, 1), 0, 86);
        told(r, 9, signs(1, 61, 45, 1, 1, 1, 1, 1, 1, 1, 1, 1), 1, 1099);
    }

    private static void least() {
        Doc.terms("SET are the LINES with the least BADNESS in all,");
        Run r = Run.stocked(1, 100);
        setsOnce(r, 9, signs(0, 32, 0, 32, 0, 32, 0), 5, 1);
        setsOnce(r, 5, signs(0, 32, 0, 32, 0, 32, 0, 32, 0), 3, 3, 1);
        setsOnce(r, 8, signs(0, 0, 0, 0, 32, 0, 0, 32, 0, 0, 0, 0, 32, 0, 0, 0, 0, 0, 0), 4, 7, 6);
        leastByEachPart();
    }

    /** Choices that would be others if a part of BADNESS or WIDTH were left out. */
    private static void leastByEachPart() {
        Run r = Run.stocked(2, 100);
        setsOnce(r, 2, signs(1, 45, 1), 2);
        setsOnce(r, 3, signs(1, 45, 32, 1), 1, 1);
        setsOnce(r, 4, signs(1, 32, 45, 1, 1), 3, 2);
        setsOnce(r, 6, signs(1, 32, 32, 32, 1), 3, 1);
        setsOnce(r, 8, signs(1, 32, 32, 32, 1), 3, 1);
        r.does("width", 0, 0, 2);
        setsOnce(r, 3, signs(1, 32, 45, 1), 1, 1);
        setsOnce(r, 3, signs(1, 45, 32, 1), 2, 2);
        r.does("width", 0, 0, 3);
        setsOnce(r, 3, signs(1, 1, 45, 32, 1), 2, 1);
        r.does("width", 0, 0, 1);
        setsOnce(r, 3, signs(1, 1, 45, 32, 1), 3, 2);
        r.does("kernRow", 0, 1, 1);
        r.does("kern", 0, 1, 0, 2);
        setsOnce(r, 3, signs(1, 1, 45, 32, 1), 2, 1);
    }

    private static void earlier() {
        Doc.terms("of such choices the one that at the first BREAK in which they differ has the earlier one.");
        Run r = Run.stocked(2, 100);
        setsOnce(r, 6, signs(1, 32, 32, 1, 32, 1), 2, 3);
        setsOnce(r, 3, signs(1, 32, 32, 1, 32, 1), 1, 2, 1);
        setsOnce(r, 2, signs(1, 32, 32, 32, 32, 1), 1, 0, 1, 1);
        setsOnce(r, 2, signs(1, 45, 45, 1, 1), 2, 2);
        setsOnce(r, 7, signs(1, 32, 1, 32, 1), 3, 1);
        setsOnce(r, 1, signs(1, 45, 1), 2, 1);
        r.write(0, 1, 45, 45, 1, 1);
        r.is(2, "set", 0, 0, 2);
        r.is(1, "line", 0, 7);
    }

    private static void tight() {
        Doc.terms("JUSTIFIED: one that does not fit: each SPACE has ADDED 0 less SHRINK: it is TIGHT (2).");
        Run r = Run.stocked(1, 60);
        sets(r, 1, signs(0, 32, 61, 32), 1, 2);
        r.is(2, "line", 1, 6);
        added(r, 1, 0, -1);
        r.is(2, "line", 1, 4);
        r.does("drop", 0);
        r.does("spacing", 0, 5, 2, 4, 1);
        sets(r, 0, signs(0, 61, 32, 32), 4);
        r.is(2, "line", 0, 6);
        added(r, 0, 0, 0, -4, -4);
        r.is(1 + 2, "line", 0, 4);
        r.does("drop", 0);
        r.does("spacing", 0, 5, 2, 0, 1);
        sets(r, 0, signs(0, 32), 2);
        r.is(2, "line", 0, 6);
        added(r, 0, 0, 0);
    }

    private static void nothingAdded() {
        Doc.terms("Else, of the last LINE with u not below 0 nothing, and if u is 0 nothing.");
        Run r = Run.stocked(1, 60);
        sets(r, 300, signs(0, 32, 61, 0), 4);
        added(r, 0, 0, 0, 0, 0);
        r.is(0, "line", 0, 6);
        r.is(5, "line", 0, 4);
        r.does("drop", 0);
        sets(r, 5, signs(0, 32, 61, 0, 32, 0, 0, 0), 4, 3);
        added(r, 0, 0, 0, 0, 0);
        r.is(0, "line", 0, 6);
        r.does("drop", 0);
        sets(r, 1, signs(0, 32, 0), 1, 1);
        r.is(0, "line", 0, 6);
        r.is(0, "told", 1);
        r.does("drop", 0);
        r.does("width", 0, 0, 4);
        sets(r, 15, signs(0, 32, 61, 0, 32, 0, 32, 61), 4, 3);
        added(r, 0, 0, 1, 3, 0);
        added(r, 1, 0, 0, 0);
        r.is(7, "line", 1, 4);
        r.is(0, "line", 1, 6);
    }

    /** Two LINES: the gaps, with a LETTER ahead of each and behind them, and as many LETTERS as units fit. */
    private static void gapsGet(Run r, int m, int[] gaps, int... due) {
        int[] signs = new int[2 * gaps.length + 2 + m];
        for (int g = 0; g < gaps.length; g++) {
            signs[2 * g + 1] = gaps[g];
        }
        signs[2 * gaps.length + 1] = 32;
        r.write(0, signs);
        r.is(2, "set", 0, 0, m);
        r.is(m, "line", 0, 4);
        for (int g = 0; g < gaps.length; g++) {
            r.is(due[g], "sortOf", 0, 2 * g + 1, 2);
        }
    }

    private static void stretched() {
        Doc.terms("If u is above 0: each SPACE and RULE has ADDED u times its SHARE / s, and the first ones from the left "
                + "one more each, as many as there are units left:");
        int s = 32;
        int r = 61;
        gaps(6, signs(s), 1);
        gaps(9 + 1, signs(s, s), 1, 0);
        gaps(9 + 2, signs(s, s), 1, 1);
        gaps(9 + 3, signs(s, s), 2, 1);
        gaps(6 + 1, signs(r, s), 1, 0);
        gaps(6 + 1, signs(s, r), 1, 0);
        gaps(6 + 2, signs(s, r), 1, 1);
        gaps(6 + 3, signs(s, r), 1, 2);
        gaps(6 + 4, signs(s, r), 1, 3);
        gaps(6 + 5, signs(s, r), 2, 3);
        gaps(6 + 7, signs(r, s), 6, 1);
        gaps(3 + 1, signs(r, r), 1, 0);
        gaps(3 + 5, signs(r, r), 3, 2);
        gaps(10 + 2, signs(s, r, s), 1, 1, 0);
        gaps(10 + 4, signs(s, r, s), 1, 3, 0);
    }

    private static void gaps(int m, int[] gaps, int... due) {
        gapsGet(Run.stocked(1, 60), m, gaps, due);
    }

    private static void loose() {
        Doc.terms("LOOSE (1) if u is above STRETCH times s;");
        Run r = Run.stocked(1, 90);
        gapsGet(r, 5 + 2, signs(32), 2);
        r.is(0, "line", 0, 6);
        r.does("drop", 0);
        gapsGet(r, 5 + 3, signs(32), 3);
        r.is(1, "line", 0, 6);
        r.does("drop", 0);
        gapsGet(r, 2 + 6, signs(61), 6);
        r.is(0, "line", 0, 6);
        r.does("drop", 0);
        gapsGet(r, 2 + 7, signs(61), 7);
        r.is(1, "line", 0, 6);
        r.does("drop", 0);
        r.does("spacing", 0, 3, 0, 1, 1);
        gapsGet(r, 5 + 1, signs(32), 1);
        r.is(1, "line", 0, 6);
        r.is(0, "told", 1);
    }

    private static void zero() {
        Doc.terms("with s 0 it is a ZERO (a FAULT that is counted alone: set() is done all the same; the LINE is told as "
                + "3).");
        Run r = Run.stocked(1, 60);
        sets(r, 2, signs(0, 32, 0, 32, 0, 0), 1, 1, 2);
        r.is(0, "status");
        r.is(2, "told", 1);
        r.is(3, "line", 0, 6);
        r.is(3, "line", 1, 6);
        r.is(0, "line", 2, 6);
        r.is(1, "line", 0, 4);
        r.is(1, "told", 9);
        r.does("undo");
        r.is(2, "told", 1);
        r.is(0, "told", 4);
        sets(r, 1, signs(32, 0), 0, 1);
        r.is(3, "line", 0, 6);
        r.is(3, "told", 1);
        r.does("drop", 0);
        sets(r, 0, signs(32, 64), 0, 0);
        r.is(3, "told", 1);
        r.is(0, "line", 0, 6);
    }

    private static void shrunk() {
        Doc.terms("If u is below 0: each SPACE has ADDED u / w, and the first ones one less each, till u is given.");
        Run r = Run.stocked(1, 90);
        r.does("spacing", 0, 3, 2, 2, 1);
        r.does("width", 0, 0, 10);
        int[] words = signs(0, 32, 0, 61, 32, 0, 32, 0);
        int[][] due = {{0, 0, 0}, {-1, 0, 0}, {-1, -1, 0}, {-1, -1, -1}, {-2, -1, -1}, {-2, -2, -1}, {-2, -2, -2}};
        for (int less = 0; less < due.length; less++) {
            sets(r, 49 - less, words, 8);
            added(r, 0, 0, due[less][0], 0, 0, due[less][1], 0, due[less][2], 0);
            r.is(49 - less, "line", 0, 4);
            r.is(less * less, "line", 0, 9);
            r.does("drop", 0);
        }
        sets(r, 45, signs(0, 32, 0, 32, 0, 32, 0, 32, 0, 0, 0, 0), 7, 4);
        added(r, 0, 0, -2, 0, -1, 0, -1, 0);
        Doc.terms("(0: told as none of these.)");
        r.is(0, "line", 0, 6);
        r.is(0, "line", 1, 6);
        r.does("drop", 0);
        Doc.terms("x / y is cut toward 0.");
        sets(r, 49 - 5, words, 8);
        r.is(-2, "sortOf", 0, 4, 2);
        r.is(-1, "sortOf", 0, 6, 2);
        r.does("drop", 0);
        sets(r, 49 - 1, words, 8);
        r.is(0, "sortOf", 0, 4, 2);
    }

    private static void galley() {
        Doc.terms("The GALLEY has LINES 0, 1, .. in order as they were set.");
        Run r = Run.stocked(2, 60);
        r.writeWords(3, 2);
        r.write(7, 1);
        r.is(1, "set", 7, 0, 1);
        r.is(2, "set", 3, 0, 1);
        r.is(1, "set", 7, 0, 2);
        int[] paragraphs = {7, 3, 3, 7};
        for (int l = 0; l < 4; l++) {
            r.is(paragraphs[l], "line", l, 0);
        }
        r.is(4, "told", 4);
    }

    private static void set() {
        Doc.says(22, "A paragraph is SET by a FOUNT to a MEASURE, its LINES come behind those of the GALLEY: how many.");
        Run r = Run.stocked(1, 60);
        r.stock(2, 1, 60);
        r.does("width", 2, 0, 2);
        r.writeWords(5, 3);
        r.is(1, "set", 5, 2, 300);
        r.is(3, "set", 5, 0, 1);
        r.is(1, "set", 5, 0, 0);
        r.is(5, "told", 4);
        r.is(12, "line", 0, 4);
        r.is(2, "line", 0, 1);
        r.is(0, "line", 1, 1);
        r.is(5 + 3 + 5, "told", 3);
        Doc.says(22, "BAD: p, f, m above 300;");
        for (int p : new int[] {-1, 12, MIN, MAX}) {
            r.bad("set", p, 0, 1);
        }
        for (int f : new int[] {-1, 4, MIN, MAX}) {
            r.bad("set", 5, f, 1);
        }
        r.bad("set", 5, 0, 301);
        r.bad("set", 5, 0, MAX);
        r.bad("set", 0, 1, 301);
        r.is(5, "told", 4);
    }

    private static void setFull() {
        Doc.says(22, "FULL: the GALLEY has 50 LINES or more;");
        Run r = Run.stocked(1, 60);
        int[] spaces = new int[40];
        java.util.Arrays.fill(spaces, 32);
        spaces[39] = 64;
        r.write(0, spaces);
        r.does("text", 1, 0);
        for (int i = 0; i < 9; i++) {
            r.does("set", 1, 0, 0);
        }
        r.is(40, "set", 0, 0, 0);
        r.is(49, "told", 4);
        r.is(40, "set", 0, 0, 0);
        r.is(89, "told", 4);
        r.full("set", 0, 0, 0);
        r.full("set", 1, 0, 0);
        r.full("set", 9, 3, -1);
        r.bad("set", 9, 3, 301);
        r.does("drop", 50);
        r.full("set", 1, 0, 0);
        r.does("drop", 49);
        r.is(1, "set", 1, 0, 0);
        r.full("set", 1, 0, 0);
        r.does("makeup", 60);
        r.does("lock");
        r.is(1, "set", 1, 0, 0);
    }

    private static void setFaults() {
        Doc.says(22, "NULL: the paragraph, then the FOUNT;");
        Run r = Run.stocked(1, 9);
        r.does("text", 0, 1);
        r.isNull("set", 1, 1, -1);
        r.isNull("set", 1, 0, 1);
        r.isNull("set", 0, 1, 1);
        r.isNull("set", 0, 1, -1);
        Doc.says(22, "SIZE: m is below 0;");
        r.size("set", 0, 0, -1);
        r.size("set", 0, 0, MIN);
        r.does("sign", 0, 0, 99);
        r.write(2, 127);
        r.size("set", 2, 0, -1);
        r.is(1, "set", 0, 0, 0);
        Doc.says(22, "FAULTS of reading;");
        r.index("set", 2, 0, 1);
        r.write(2, 0, 0, 94, 0);
        r.index("set", 2, 0, 1);
        r.write(2, 94, 32, 127);
        r.cast("set", 2, 0, 1);
        r.write(2, 127, 94, 32);
        r.index("set", 2, 0, 1);
        r.is(1, "told", 4);
        r.is(1, "told", 3);
    }

    private static void setEmpty() {
        Doc.says(22, "EMPTY: for the SORTS of the LINES, in order (of a STACK its first LETTER, then its second).");
        Run r = new Run();
        r.does("fount", 0, 2);
        r.does("buy", 0, 0, 0, 1);
        r.does("buy", 0, 0, 1, 2);
        int[][] lacking = {{32}, {61}, {99}, {0, 0}, {94, 0, 0}, {94, 1, 0, 0}, {1, 0, 45, 1, 1}, {1, 1, 1}};
        for (int[] signs : lacking) {
            r.write(0, signs);
            r.empty("set", 0, 0, 3);
            r.is(0, "told", 3);
            r.is(0, "told", 4);
            r.is(1, "left", 0, 0, 0);
            r.is(2, "left", 0, 0, 1);
        }
        r.write(0, 127, 32);
        r.index("set", 0, 0, 3);
        r.write(0, 94, 1, 0, 1);
        r.is(1, "set", 0, 0, 3);
        r.is(0, "left", 0, 0, 0);
        r.is(0, "left", 0, 0, 1);
        r.does("fount", 3, 1);
        r.does("buy", 3, 0, 0, 1);
        r.write(0, 0, 0);
        r.empty("set", 0, 3, 3);
        r.write(0, 99);
        r.empty("set", 0, 3, 3);
        Doc.says(22, "(They are JUSTIFIED when all SORTS are there.)");
        r = new Run();
        r.does("fount", 0, 1);
        r.does("buy", 0, 0, 0, 1);
        r.write(0, 0, 32, 0, 0);
        r.empty("set", 0, 0, 2);
        r.is(1, "told", 1);
        r.does("buy", 0, 0, 0, 2);
        r.is(2, "set", 0, 0, 2);
        r.is(2, "told", 1);
    }

    private static void drop() {
        Doc.says(23, "LINES from l on go: their SORTS go back to their BOXES: how many SORTS.");
        Run r = Run.stocked(2, 20);
        r.write(0, 94, 0, 1, 32, 1, 61, 96);
        r.does("text", 1, 0);
        r.is(1, "set", 0, 0, 20);
        r.is(1, "set", 1, 0, 20);
        r.is(1, "set", 0, 0, 20);
        r.is(12, "told", 3);
        r.is(6, "drop", 1);
        r.is(1, "told", 4);
        r.is(6, "told", 3);
        r.is(19, "left", 0, 0, 0);
        r.is(18, "left", 0, 0, 1);
        r.is(19, "left", 0, 2, 0);
        r.is(19, "left", 0, 3, 0);
        r.is(19, "left", 0, 4, 0);
        r.is(6, "drop", 0);
        r.is(0, "told", 4);
        r.is(0, "told", 3);
        r.does("set", 1, 0, 1);
        r.is(0, "drop", 0);
        Doc.says(23, "BAD: there is no LINE l.");
        r.bad("drop", 0);
        r.does("set", 1, 0, 1);
        for (int l : new int[] {-1, 1, 49, MIN, MAX}) {
            r.bad("drop", l);
        }
        Doc.says(23, "(PAGES go, too.)");
        r.does("set", 1, 0, 1);
        r.is(1, "makeup", 9);
        r.does("drop", 1);
        r.is(0, "told", 5);
        r.bad("page", 0, 0);
        r.state("lock");
    }

    private static void line() {
        Run r = Run.stocked(1, 60);
        r.stock(3, 3, 60);
        r.write(9, 1, 45, 2, 2, 2, 2, 2, 2, 32, 1, 32, 1, 32, 2, 2, 2, 2, 2, 2);
        r.is(4, "set", 9, 3, 6);
        lineAnswers(r);
        Doc.says(24, "BAD.");
        for (int l : new int[] {-1, 4, MIN, MAX}) {
            for (int what = 0; what < 10; what++) {
                r.is(Bench.BAD, "line", l, what);
            }
        }
        for (int what : new int[] {-1, 10, MIN, MAX}) {
            r.bad("line", 0, what);
        }
    }

    private static void lineAnswers(Run r) {
        String[] words = {
            "Of a LINE: what = 0 its paragraph,", "1 its FOUNT,", "2 the how manieth it is of those set with it (from 0),",
            "3 how many SORTS it has,", "4 its WIDTH with all ADDED,", "5 the MEASURE,", "6 how it is told (0 .. 3),",
            "7 whether it ends at a HYPHEN,", "8 whether it is the last one of those,", "9 its BADNESS.",
        };
        int[][] due = {{9, 9, 9, 9}, {3, 3, 3, 3}, {0, 1, 2, 3}, {2, 6, 3, 6}, {2, 6, 6, 6}, {6, 6, 6, 6}, {3, 0, 0, 0},
            {1, 0, 0, 0}, {0, 0, 0, 1}, {1066, 0, 1, 0}};
        for (int what = 0; what < due.length; what++) {
            Doc.says(24, words[what]);
            for (int l = 0; l < 4; l++) {
                r.is(due[what][l], "line", l, what);
            }
        }
    }

    private static void sortOf() {
        Run r = Run.stocked(3, 60);
        r.does("join", 0, 2, 1, -1, 2);
        r.does("buy", 0, 1, 0, 9);
        r.write(0, 1, 2, 1, 32, 61, 98, 94, 2, 1, 32, 0, 0, 0, 0, 0, 0, 0, 0, 0, 0, 0, 0, 0, 0);
        r.is(2, "set", 0, 0, 14);
        Doc.says(25, "Of SORT k of a LINE: what = 0 its KIND,");
        int[][] due = {{0, 1, 2, 3, 4, 5}, {1, 2, 0, 0, 2, 0}, {0, 0, 2, 3, 0, 0}};
        for (int k = 0; k < 6; k++) {
            r.is(due[0][k], "sortOf", 0, k, 0);
        }
        Doc.says(25, "1 its code (as ask()),");
        for (int k = 0; k < 6; k++) {
            r.is(due[1][k], "sortOf", 0, k, 1);
        }
        Doc.says(25, "2 its ADDED (0 of others).");
        for (int k = 0; k < 6; k++) {
            r.is(due[2][k], "sortOf", 0, k, 2);
        }
        Doc.says(25, "BAD.");
        for (int l : new int[] {-1, 2, MIN, MAX}) {
            r.bad("sortOf", l, 0, 0);
        }
        for (int k : new int[] {-1, 6, MIN, MAX}) {
            r.bad("sortOf", 0, k, 0);
        }
        for (int what : new int[] {-1, 3, MIN, MAX}) {
            r.bad("sortOf", 0, 0, what);
        }
        r.does("drop", 0);
        r.write(1, 1, 45, 1, 1);
        r.is(2, "set", 1, 0, 2);
        r.is(0, "sortOf", 0, 1, 2);
        r.does("text", 1, 0);
        r.does("set", 1, 0, 1);
        r.bad("sortOf", 2, 0, 0);
    }
}
