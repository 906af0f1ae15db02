/** Promises 11 to 13 and section 2, sentence by sentence. */
final class TextEdgeTest {
    private static final int MIN = Bench.MIN, MAX = Bench.MAX;
    private static final int[] NO_PARAGRAPHS = {-1, 12, MIN, MAX};

    public static void main(String[] args) {
        paragraphs();
        oneSign();
        calls();
        stackFaults();
        stacks();
        joins();
        letters();
        text();
        sign();
        note();
        Due.end();
    }

    private static void paragraphs() {
        Doc.terms("PARAGRAPHS 0 .. 11 are NOTHING at first, or ROWS of up to 40 SIGNS (0 .. 127).");
        Run r = Run.stocked(1, 60);
        for (int p = 0; p < 12; p++) {
            r.isNull("sign", p, 0, 0);
            r.isNull("set", p, 0, 1);
        }
        r.is(1, "text", 11, 40);
        r.is(1, "sign", 11, 39, 127);
        r.index("set", 11, 0, 300);
        r.is(1, "sign", 11, 39, 0);
        r.is(1, "set", 11, 0, 300);
        r.is(40, "line", 0, 3);
    }

    /** Of a LINE of the SIGNS alone, set with all room: its SORTS by KIND and code. */
    private static void reads(Run r, int[] signs, int... kindsAndCodes) {
        r.write(0, signs);
        r.is(1, "set", 0, 0, 300);
        r.is(kindsAndCodes.length / 2, "line", 0, 3);
        for (int k = 0; k < kindsAndCodes.length / 2; k++) {
            r.is(kindsAndCodes[2 * k], "sortOf", 0, k, 0);
            r.is(kindsAndCodes[2 * k + 1], "sortOf", 0, k, 1);
        }
        r.does("drop", 0);
    }

    private static void index(Run r, int... signs) {
        r.write(0, signs);
        r.index("set", 0, 0, 300);
    }

    private static void cast(Run r, int... signs) {
        r.write(0, signs);
        r.cast("set", 0, 0, 300);
    }

    private static int[] signs(int... signs) {
        return signs;
    }

    private static void oneSign() {
        Doc.terms("TO READ one by a FOUNT, from its first SIGN on:");
        Run r = Run.stocked(3, 9);
        reads(r, signs(0, 1, 2), 0, 0, 0, 1, 0, 2);
        r.write(0, 99, 3);
        r.index("set", 0, 0, 300);
        Doc.terms("32: a SPACE.");
        reads(r, signs(32), 2, 0);
        index(r, 31);
        index(r, 33);
        Doc.terms("45: a HYPHEN: LETTER 0 is looked up (INDEX: the FOUNT has none).");
        reads(r, signs(45));
        index(r, 44);
        index(r, 46);
        r.does("fount", 1, 0);
        r.write(0, 45);
        r.index("set", 0, 1, 300);
        r.does("fount", 2, 1);
        r.is(1, "set", 0, 2, 300);
        r.does("drop", 0);
        Doc.terms("61: a RULE.");
        reads(r, signs(61), 3, 0);
        index(r, 60);
        index(r, 62);
        Doc.terms("96 .. 99: ORNAMENT 0 .. 3.");
        reads(r, signs(96, 97, 98, 99), 4, 0, 4, 1, 4, 2, 4, 3);
        index(r, 95);
        index(r, 100);
    }

    private static void calls() {
        Doc.terms("64 .. 75: a CALL of paragraph 0 .. 11 as a NOTE.");
        Run r = Run.stocked(1, 9);
        reads(r, signs(64, 75));
        index(r, 63);
        index(r, 76);
        for (int p = 0; p < 12; p++) {
            r.write(0, 64 + p);
            r.is(1, "set", 0, 0, 9);
            r.is(1, "makeup", 60);
            r.is(1, "page", 0, 4);
            r.is(p, "noteOf", 0, 0);
            r.does("drop", 0);
        }
        r.write(0, 0, 45, 61, 96);
        r.is(1, "set", 0, 0, 9);
        r.is(1, "makeup", 60);
        r.is(0, "page", 0, 4);
    }

    private static void stackFaults() {
        Doc.terms("94: a STACK of the two SIGNS behind it (INDEX: there is none):");
        Run r = Run.stocked(3, 20);
        reads(r, signs(94, 1, 2), 5, 0);
        index(r, 94);
        index(r, 94, 1);
        index(r, 0, 94, 1);
        Doc.terms("each by itself a SPACE, RULE, ORNAMENT as told, another one a LETTER (INDEX: beyond the WIDTHS), "
                + "is TAKEN FOR a LETTER (CAST), the first one, then the second;");
        for (int other : signs(32, 61, 96, 97, 98, 99)) {
            cast(r, 94, other, 0);
            cast(r, 94, 0, other);
            cast(r, 94, other);
            cast(r, 94, other, 3);
            index(r, 94, 3, other);
        }
        r = Run.stocked(3, 20);
        for (int beyond : signs(3, 31, 45, 60, 64, 75, 94, 95, 100, 127)) {
            index(r, 94, beyond, 0);
            index(r, 94, 0, beyond);
            index(r, 94, beyond, 32);
        }
        r.is(0, "told", 4);
    }

    private static void stacks() {
        Doc.terms("reading goes on behind them.");
        Run r = Run.stocked(3, 20);
        reads(r, signs(94, 1, 2, 1), 5, 0, 0, 1);
        reads(r, signs(94, 1, 2, 94, 0, 0, 32), 5, 0, 5, 0, 2, 0);
        r.does("join", 0, 1, 2, -1, 9);
        r.does("buy", 0, 1, 0, 9);
        reads(r, signs(94, 1, 2), 5, 0);
        reads(r, signs(94, 1, 1, 2), 5, 0, 0, 2);
        reads(r, signs(94, 0, 0, 1, 2), 5, 0, 1, 1);
    }

    private static void joins() {
        Doc.terms("Another SIGN: if the LETTERS of a JOIN stand from here on, one behind the other: it is JOINED,");
        Run r = Run.stocked(4, 20);
        r.does("join", 0, 1, 2, -1, 5);
        r.does("buy", 0, 1, 0, 20);
        reads(r, signs(1, 2), 1, 1);
        reads(r, signs(2, 1), 0, 2, 0, 1);
        reads(r, signs(1), 0, 1);
        reads(r, signs(1, 32, 2), 0, 1, 2, 0, 0, 2);
        reads(r, signs(1, 45, 2), 0, 1, 0, 2);
        reads(r, signs(1, 64, 2), 0, 1, 0, 2);
        Doc.terms("by the longest such JOIN, of like ones the first; reading goes on behind them.");
        r.does("join", 0, 1, 2, 3, 8);
        r.does("join", 0, 1, 2, 3, 9);
        r.does("join", 0, 1, 2, -1, 6);
        r.does("join", 0, 2, 3, -1, 7);
        for (int j = 1; j < 5; j++) {
            r.does("buy", 0, 1, j, 20);
        }
        widthOf(r, 8, 1, 2, 3);
        widthOf(r, 5 + 5, 1, 2, 1, 2);
        widthOf(r, 8 + 1 + 7, 1, 2, 3, 3, 2, 3);
        widthOf(r, 1 + 8, 1, 1, 2, 3);
        widthOf(r, 5, 1, 2);
        r = Run.stocked(1, 20);
        r.does("join", 0, 0, 0, -1, 5);
        r.does("join", 0, 0, 0, 0, 9);
        r.does("buy", 0, 1, 0, 20);
        r.does("buy", 0, 1, 1, 20);
        widthOf(r, 9 + 5, 0, 0, 0, 0, 0);
        widthOf(r, 9 + 9 + 1, 0, 0, 0, 0, 0, 0, 0);
    }

    private static void widthOf(Run r, int due, int... signs) {
        r.write(0, signs);
        r.is(1, "set", 0, 0, 300);
        r.is(due, "line", 0, 4);
        r.does("drop", 0);
    }

    private static void letters() {
        Doc.terms("Else it is a LETTER (INDEX: beyond the WIDTHS).");
        Run r = Run.stocked(24, 2);
        reads(r, signs(0, 23), 0, 0, 0, 23);
        index(r, 24);
        r.does("fount", 1, 23);
        r.does("buy", 1, 0, 22, 1);
        r.write(0, 22);
        r.is(1, "set", 0, 1, 300);
        r.write(0, 23);
        r.index("set", 0, 1, 300);
        r.does("fount", 2, 0);
        r.write(0, 0);
        r.index("set", 0, 2, 300);
        r.write(0, 96, 32, 0, 94);
        r.index("set", 0, 2, 300);
    }

    private static void text() {
        Doc.says(11, "A paragraph is a new ROW of n SIGNS 0 (n = -1: NOTHING): 1.");
        Run r = Run.stocked(2, 60);
        r.is(1, "text", 0, 2);
        r.does("sign", 0, 0, 1);
        r.is(1, "text", 0, 2);
        r.is(1, "set", 0, 0, 9);
        r.is(0, "sortOf", 0, 0, 1);
        r.is(0, "sortOf", 0, 1, 1);
        r.is(1, "text", 0, 0);
        r.index("sign", 0, 0, 0);
        r.is(1, "set", 0, 0, 9);
        r.is(0, "line", 1, 3);
        r.is(1, "text", 0, -1);
        r.isNull("sign", 0, 0, 0);
        r.isNull("set", 0, 0, 9);
        r.is(1, "text", 0, -1);
        Doc.says(11, "BAD: p, n above 40;");
        for (int p : NO_PARAGRAPHS) {
            r.bad("text", p, 1);
            r.bad("text", p, -2);
        }
        r.does("text", 0, 1);
        r.bad("text", 0, 41);
        r.bad("text", 0, MAX);
        r.is(1, "sign", 0, 0, 0);
        r.is(1, "text", 0, 40);
        Doc.says(11, "SIZE: n below -1.");
        r.does("text", 0, 3);
        r.size("text", 0, -2);
        r.size("text", 0, MIN);
        r.is(1, "sign", 0, 2, 0);
    }

    private static void sign() {
        Doc.says(12, "SIGN i of a paragraph: 1.");
        Run r = Run.stocked(3, 9);
        r.does("text", 0, 3);
        r.is(1, "sign", 0, 0, 2);
        r.is(1, "sign", 0, 2, 1);
        r.is(1, "sign", 0, 2, 127);
        r.is(1, "sign", 0, 2, 0);
        r.is(1, "sign", 0, 2, 1);
        r.is(1, "set", 0, 0, 9);
        r.is(2, "sortOf", 0, 0, 1);
        r.is(0, "sortOf", 0, 1, 1);
        r.is(1, "sortOf", 0, 2, 1);
        Doc.says(12, "BAD: p, c;");
        for (int p : NO_PARAGRAPHS) {
            r.bad("sign", p, 0, 0);
        }
        for (int c : new int[] {-1, 128, MIN, MAX}) {
            r.bad("sign", 0, 0, c);
            r.bad("sign", 1, 0, c);
            r.bad("sign", 0, 9, c);
        }
        Doc.says(12, "NULL, INDEX.");
        r.isNull("sign", 1, 0, 0);
        r.isNull("sign", 1, -1, 0);
        for (int i : new int[] {-1, 3, 40, MIN, MAX}) {
            r.index("sign", 0, i, 0);
        }
    }

    private static void note() {
        Doc.says(13, "A paragraph as a NOTE is h high (0 .. 9; at first 2): how high it was.");
        Run r = Run.stocked(1, 9);
        for (int p = 0; p < 12; p++) {
            r.is(2, "note", p, 9);
        }
        r.is(9, "note", 11, 0);
        r.is(0, "note", 11, 4);
        r.write(0, 64 + 11);
        r.does("set", 0, 0, 9);
        r.does("makeup", 60);
        r.is(1 + 4, "page", 0, 2);
        Doc.says(13, "BAD.");
        for (int p : NO_PARAGRAPHS) {
            r.bad("note", p, 1);
        }
        for (int h : new int[] {-1, 10, MIN, MAX}) {
            r.bad("note", 11, h);
        }
        r.is(4, "note", 11, 4);
    }
}
