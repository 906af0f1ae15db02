/** Promises 3 to 10 and 35, and FOUNTS and CASES of section 1, sentence by sentence. */
final class FountEdgeTest {
    private static final int MIN = Bench.MIN, MAX = Bench.MAX;
    private static final int[] NO_FOUNTS = {-1, 4, MIN, MAX};

    public static void main(String[] args) {
        founts();
        letters();
        rest();
        stateWhileOut();
        fount();
        width();
        kernRow();
        kern();
        join();
        ornament();
        spacing();
        buy();
        left();
        Due.end();
    }

    private static void founts() {
        Doc.terms("FOUNTS 0 .. 3 are NOTHING at first.");
        Run r = new Run();
        for (int f = 0; f < 4; f++) {
            for (int kind = 0; kind < 5; kind++) {
                r.none("left", f, kind, 0);
            }
            r.isNull("width", f, 0, 1);
            r.is(1, "fount", f, 1);
        }
    }

    private static void letters() {
        Doc.terms("One that is bought has n LETTERS (0 .. n - 1), a ROW of their n WIDTHS (1 each at first),");
        Run r = Run.stocked(24, 1);
        for (int a = 0; a < 24; a++) {
            r.is(1, "width", 0, a, 7);
        }
        r.index("width", 0, 24, 7);
        Doc.terms("a ROW of n KERNS, each a ROW of numbers or NOTHING (at first);");
        r = Run.stocked(3, 1);
        r.isNull("kern", 0, 0, 0, 1);
        r.isNull("kern", 0, 2, 0, 1);
        r.index("kern", 0, 3, 0, 1);
    }

    private static void rest() {
        Doc.terms("JOINS 0, 1, .. (6 at most) of two or three LETTERS, each with a WIDTH;");
        Run r = Run.stocked(3, 9);
        for (int j = 0; j < 6; j++) {
            r.none("left", 0, 1, j);
            r.is(j, "join", 0, 0, 1, j % 2 == 0 ? -1 : 2, 10 + j);
            r.is(5, "buy", 0, 1, j, 5);
        }
        r.full("join", 0, 0, 1, -1, 1);
        for (int j = 0; j < 6; j++) {
            r.is(1, "take", j, 0, 1, j);
            r.is(10 + j, "ask", j, 0);
        }
        Doc.terms("4 ORNAMENTS (WIDTH 2 each at first);");
        r = Run.stocked(0, 1);
        for (int k = 0; k < 4; k++) {
            r.is(2, "ornament", 0, k, 9);
        }
        r.index("ornament", 0, 4, 9);
        Doc.terms("a SPACE (3), STRETCH (2), SHRINK (1), HEIGHT (1); and a CASE.");
        defaults();
        Doc.terms("A CASE has BOXES: one for each LETTER, one for each JOIN that was told (for JOINED ones), one for "
                + "SPACES, one for RULES, 4 for ORNAMENTS; in each lie so many SORTS (0 at first).");
        boxes();
    }

    /** Each is the one, and neither one less nor one more. */
    private static void defaults() {
        Run r = Run.stocked(1, 60);
        r.is(1, "take", 0, 0, 2, 0);
        r.is(3, "ask", 0, 0);
        r.does("putBack", 0);
        r.write(0, 0, 32, 0, 32, 0, 0, 0, 0, 0, 0, 0);
        r.is(2, "set", 0, 0, 7);
        r.is(4, "line", 0, 9);
        r.is(0, "line", 0, 6);
        r.is(2, "set", 0, 0, 8);
        r.is(1009, "line", 2, 9);
        r.is(1, "line", 2, 6);
        r.write(1, 0, 32, 0);
        r.is(1, "set", 1, 0, 4);
        r.is(0, "line", 4, 6);
        r.write(1, 0, 32);
        r.is(1, "set", 1, 0, 2);
        r.is(2, "line", 5, 6);
        r.is(1, "makeup", 60);
        r.is(6, "page", 0, 2);
    }

    private static void boxes() {
        Run r = new Run();
        int[] kinds = {24, 6, 1, 1, 4};
        for (int f = 2; f < 4; f++) {
            r.does("fount", f, 24);
            for (int j = 0; j < 6; j++) {
                r.does("join", f, 0, j, -1, 1);
            }
            for (int kind = 0; kind < 5; kind++) {
                for (int code = 0; code < kinds[kind]; code++) {
                    int n = 10 * kind + code + f;
                    r.is(0, "left", f, kind, code);
                    r.is(n, "buy", f, kind, code, n);
                }
            }
        }
        for (int f = 2; f < 4; f++) {
            for (int kind = 0; kind < 5; kind++) {
                for (int code = 0; code < kinds[kind]; code++) {
                    r.is(10 * kind + code + f, "left", f, kind, code);
                }
            }
            r.none("left", f, 0, 24);
            r.none("left", f, 1, 6);
            r.none("left", f, 4, 4);
        }
    }

    private static void stateWhileOut() {
        Doc.terms("(STATE of all these but fount(), buy(): a SORT of that FOUNT is OUT)");
        Run r = Run.stocked(2, 9);
        r.stock(1, 2, 9);
        r.does("kernRow", 0, 0, 1);
        r.does("take", 0, 0, 0, 0);
        allState(r);
        r.is(10, "buy", 0, 0, 1, 1);
        r.is(1, "fount", 2, 1);
        r.is(1, "width", 1, 0, 1);
        r.is(1, "kernRow", 1, 0, 1);
        r.is(1, "kern", 1, 0, 0, 1);
        r.is(0, "join", 1, 0, 1, -1, 1);
        r.is(2, "ornament", 1, 0, 2);
        r.is(1, "spacing", 1, 3, 2, 1, 1);
        r.does("room", 1);
        r.does("fount", 0, 1);
        r.is(1, "width", 0, 0, 1);
        r.does("room", 0);
        r.does("putBack", 0);
        r.is(1, "width", 0, 0, 1);
        r.is(1, "spacing", 0, 3, 2, 1, 1);
    }

    private static void allState(Run r) {
        r.state("width", 0, 0, 1);
        r.state("kernRow", 0, 0, 1);
        r.state("kern", 0, 0, 0, 1);
        r.state("join", 0, 0, 1, -1, 1);
        r.state("ornament", 0, 0, 2);
        r.state("spacing", 0, 3, 2, 1, 1);
    }

    private static void fount() {
        Doc.says(3, "A FOUNT with n LETTERS is bought: 1.");
        Run r = new Run();
        r.is(1, "fount", 0, 0);
        r.none("left", 0, 0, 0);
        r.is(1, "fount", 1, 1);
        r.is(0, "left", 1, 0, 0);
        r.none("left", 1, 0, 1);
        r.is(1, "fount", 2, 24);
        r.is(0, "left", 2, 0, 23);
        r.none("left", 2, 0, 24);
        Doc.says(3, "BAD: f, n above 24;");
        r = new Run();
        for (int f : NO_FOUNTS) {
            r.bad("fount", f, 3);
            r.bad("fount", f, -1);
        }
        r.bad("fount", 0, 25);
        r.bad("fount", 0, MAX);
        r.none("left", 0, 2, 0);
        r.is(1, "fount", 0, 24);
        r.is(1, "fount", 3, 24);
        r.bad("fount", 0, 25);
        Doc.says(3, "STATE: it is there;");
        r = new Run();
        r.is(1, "fount", 0, 2);
        r.state("fount", 0, 2);
        r.state("fount", 0, 24);
        r.state("fount", 0, -1);
        r.none("left", 0, 0, 2);
        Doc.says(3, "SIZE.");
        r = new Run();
        r.size("fount", 0, -1);
        r.size("fount", 0, MIN);
        r.none("left", 0, 2, 0);
        r.is(1, "fount", 0, 0);
    }

    private static void width() {
        Doc.says(4, "WIDTH of a LETTER: the one before.");
        Run r = Run.stocked(2, 9);
        r.is(1, "width", 0, 1, 30);
        r.is(30, "width", 0, 1, 1);
        r.is(1, "width", 0, 1, 5);
        r.is(1, "width", 0, 0, 6);
        r.does("take", 0, 0, 0, 0);
        r.is(6, "ask", 0, 0);
        r.does("take", 1, 0, 0, 1);
        r.is(5, "ask", 1, 0);
        Doc.says(4, "BAD: f, w is not 1 .. 30;");
        r = Run.stocked(2, 9);
        for (int f : NO_FOUNTS) {
            r.bad("width", f, 0, 1);
        }
        for (int w : new int[] {0, 31, -1, MIN, MAX}) {
            r.bad("width", 0, 0, w);
            r.bad("width", 1, 0, w);
            r.bad("width", 0, 2, w);
        }
        r.is(1, "width", 0, 0, 1);
        r.does("take", 0, 0, 0, 0);
        r.bad("width", 0, 0, 0);
        Doc.says(4, "NULL, INDEX.");
        r = Run.stocked(2, 9);
        r.isNull("width", 1, 0, 1);
        r.isNull("width", 1, 9, 1);
        for (int a : new int[] {-1, 2, 24, MIN, MAX}) {
            r.index("width", 0, a, 1);
        }
    }

    private static void kernRow() {
        Doc.says(5, "The ROW of KERNS of LETTER a is a new one of n numbers 0 (n = -1: NOTHING): 1.");
        Run r = Run.stocked(2, 9);
        r.is(1, "kernRow", 0, 1, 24);
        r.is(1, "kern", 0, 1, 23, 1);
        r.index("kern", 0, 1, 24, 1);
        r.is(1, "kernRow", 0, 1, 1);
        r.is(1, "kern", 0, 1, 0, 5);
        r.index("kern", 0, 1, 1, 1);
        r.write(0, 1, 0);
        kernIs(r, 5);
        r.is(1, "kernRow", 0, 1, 1);
        kernIs(r, 0);
        r.is(1, "kern", 0, 1, 0, 5);
        r.is(1, "kernRow", 0, 1, 0);
        r.index("kern", 0, 1, 0, 1);
        kernIs(r, 0);
        r.is(1, "kernRow", 0, 1, -1);
        r.isNull("kern", 0, 1, 0, 1);
        r.isNull("kern", 0, 0, 0, 1);
        kernIs(r, 0);
        Doc.says(5, "BAD: f, n above 24;");
        r = Run.stocked(2, 9);
        for (int f : NO_FOUNTS) {
            r.bad("kernRow", f, 0, 1);
        }
        r.bad("kernRow", 0, 0, 25);
        r.bad("kernRow", 0, 9, MAX);
        r.bad("kernRow", 1, 0, 25);
        kernRowFaults();
    }

    private static void kernRowFaults() {
        Doc.says(5, "NULL: the FOUNT;");
        Run r = Run.stocked(2, 9);
        r.isNull("kernRow", 1, 0, 1);
        r.isNull("kernRow", 1, 9, -2);
        Doc.says(5, "SIZE: n below -1;");
        r.does("kernRow", 0, 0, 3);
        r.size("kernRow", 0, 0, -2);
        r.size("kernRow", 0, 9, MIN);
        r.is(1, "kern", 0, 0, 2, 1);
        Doc.says(5, "INDEX: a.");
        for (int a : new int[] {-1, 2, MIN, MAX}) {
            r.index("kernRow", 0, a, 1);
            r.index("kernRow", 0, a, -1);
        }
    }

    /** Of paragraph 0, two LETTERS of the WIDTH 1 each. */
    private static void kernIs(Run r, int kern) {
        r.is(1, "set", 0, 0, 300);
        r.is(2 + kern, "line", 0, 4);
        r.does("drop", 0);
    }

    private static void kern() {
        Doc.says(6, "The KERN of a and b is k: 1.");
        Run r = Run.stocked(2, 9);
        r.does("kernRow", 0, 1, 2);
        r.write(0, 1, 0);
        r.is(1, "kern", 0, 1, 0, 9);
        kernIs(r, 9);
        r.is(1, "kern", 0, 1, 1, 4);
        kernIs(r, 9);
        r.is(1, "kern", 0, 1, 0, -9);
        kernIs(r, -9);
        r.is(1, "kern", 0, 1, 0, 0);
        kernIs(r, 0);
        Doc.says(6, "BAD: f, k is not -9 .. 9;");
        for (int f : NO_FOUNTS) {
            r.bad("kern", f, 1, 0, 1);
        }
        for (int k : new int[] {-10, 10, MIN, MAX}) {
            r.bad("kern", 0, 1, 0, k);
            r.bad("kern", 1, 1, 0, k);
            r.bad("kern", 0, 9, 9, k);
        }
        kernIs(r, 0);
        Doc.says(6, "NULL: the FOUNT; INDEX: a; NULL: the ROW; INDEX: b.");
        r.isNull("kern", 1, 9, 9, 1);
        r.index("kern", 0, 2, 9, 1);
        r.index("kern", 0, -1, 0, 1);
        r.index("kern", 0, MIN, 0, 1);
        r.isNull("kern", 0, 0, 9, 1);
        r.isNull("kern", 0, 0, 0, 1);
        for (int b : new int[] {-1, 2, MIN, MAX}) {
            r.index("kern", 0, 1, b, 1);
        }
        kernIs(r, 0);
    }

    private static void join() {
        Doc.says(7, "A JOIN more, of LETTERS a and b, and c, if it is not -1: its number.");
        Run r = Run.stocked(3, 9);
        r.is(0, "join", 0, 2, 1, -1, 4);
        r.is(1, "join", 0, 2, 1, 0, 7);
        r.does("buy", 0, 1, 0, 9);
        r.does("buy", 0, 1, 1, 9);
        r.write(0, 2, 1, 0);
        r.is(1, "set", 0, 0, 300);
        r.is(7, "line", 0, 4);
        r.write(0, 2, 1, 1);
        r.is(1, "set", 0, 0, 300);
        r.is(5, "line", 1, 4);
        Doc.says(7, "BAD: f, w is not 1 .. 60;");
        r = Run.stocked(3, 9);
        for (int f : NO_FOUNTS) {
            r.bad("join", f, 0, 1, -1, 1);
        }
        for (int w : new int[] {0, 61, MIN, MAX}) {
            r.bad("join", 0, 0, 1, -1, w);
            r.bad("join", 1, 0, 1, -1, w);
            r.bad("join", 0, 9, 9, 9, w);
        }
        r.is(0, "join", 0, 0, 1, -1, 1);
        r.is(1, "join", 0, 0, 1, -1, 60);
        joinFaults();
    }

    private static void joinFaults() {
        Doc.says(7, "FULL: there are 6;");
        Run r = Run.stocked(3, 9);
        for (int j = 0; j < 6; j++) {
            r.is(j, "join", 0, 0, 1, -1, 1);
        }
        r.full("join", 0, 0, 1, -1, 1);
        r.full("join", 0, 3, -1, 9, 1);
        r.none("left", 0, 1, 6);
        r.does("fount", 1, 2);
        r.is(0, "join", 1, 0, 1, -1, 1);
        Doc.says(7, "NULL;");
        r = Run.stocked(3, 9);
        r.isNull("join", 1, 0, 1, -1, 1);
        r.isNull("join", 1, 9, 9, 9, 1);
        Doc.says(7, "INDEX: a, b, c are beyond the WIDTHS.");
        for (int beyond : new int[] {3, 24, -2, MIN, MAX}) {
            r.index("join", 0, beyond, 1, 2, 1);
            r.index("join", 0, 1, beyond, 2, 1);
            r.index("join", 0, 1, 2, beyond, 1);
        }
        r.index("join", 0, -1, 1, 2, 1);
        r.index("join", 0, 1, -1, 2, 1);
        r.is(0, "join", 0, 1, 2, -1, 1);
        r.is(1, "join", 0, 2, 2, 2, 1);
    }

    private static void ornament() {
        Doc.says(8, "WIDTH of an ORNAMENT: the one before.");
        Run r = Run.stocked(0, 9);
        r.is(2, "ornament", 0, 3, 30);
        r.is(30, "ornament", 0, 3, 1);
        r.is(1, "ornament", 0, 3, 8);
        r.is(2, "ornament", 0, 0, 9);
        r.does("take", 0, 0, 4, 3);
        r.is(8, "ask", 0, 0);
        r.does("take", 1, 0, 4, 0);
        r.is(9, "ask", 1, 0);
        r.does("take", 2, 0, 4, 1);
        r.is(2, "ask", 2, 0);
        Doc.says(8, "BAD: f, w is not 1 .. 30;");
        r = Run.stocked(0, 9);
        for (int f : NO_FOUNTS) {
            r.bad("ornament", f, 0, 1);
        }
        for (int w : new int[] {0, 31, MIN, MAX}) {
            r.bad("ornament", 0, 0, w);
            r.bad("ornament", 1, 0, w);
            r.bad("ornament", 0, 4, w);
        }
        r.is(2, "ornament", 0, 0, 2);
        Doc.says(8, "NULL, INDEX.");
        r.isNull("ornament", 1, 0, 1);
        r.isNull("ornament", 1, 4, 1);
        for (int k : new int[] {-1, 4, MIN, MAX}) {
            r.index("ornament", 0, k, 1);
        }
    }

    private static void spacing() {
        Doc.says(9, "SPACE (1 .. 9), STRETCH (0 .. 9), SHRINK (0 .. SPACE), HEIGHT (1 .. 3) of a FOUNT: 1.");
        Run r = Run.stocked(1, 9);
        r.is(1, "spacing", 0, 9, 9, 9, 3);
        r.does("take", 0, 0, 2, 0);
        r.is(9, "ask", 0, 0);
        r.does("putBack", 0);
        r.write(0, 0, 32, 0);
        r.is(1, "set", 0, 0, 2);
        r.is(0, "line", 0, 6);
        r.is(-9, "sortOf", 0, 1, 2);
        r.does("makeup", 60);
        r.is(3, "page", 0, 2);
        r.does("drop", 0);
        r.is(1, "spacing", 0, 1, 0, 0, 1);
        r.is(2, "set", 0, 0, 2);
        r.is(0 + 1001, "line", 0, 9);
        r.does("makeup", 60);
        r.is(2, "page", 0, 2);
        r.does("drop", 0);
        r.is(1, "spacing", 0, 1, 0, 1, 1);
        r.is(1, "set", 0, 0, 2);
        Doc.says(9, "BAD;");
        r = Run.stocked(0, 9);
        for (int f : NO_FOUNTS) {
            r.bad("spacing", f, 3, 2, 1, 1);
        }
        int[][] wrong = {{0, 2, 0, 1}, {10, 2, 1, 1}, {3, -1, 1, 1}, {3, 10, 1, 1}, {3, 2, -1, 1}, {3, 2, 4, 1},
            {9, 2, 10, 1}, {3, 2, 1, 0}, {3, 2, 1, 4}, {MIN, 2, 0, 1}, {MAX, 2, 1, 1}, {3, 2, MIN, 1}, {3, 2, 1, MAX}};
        for (int[] w : wrong) {
            r.bad("spacing", 0, w[0], w[1], w[2], w[3]);
            r.bad("spacing", 1, w[0], w[1], w[2], w[3]);
        }
        r.does("take", 0, 0, 2, 0);
        r.is(3, "ask", 0, 0);
        Doc.says(9, "NULL.");
        r.isNull("spacing", 1, 3, 2, 1, 1);
    }

    private static void buy() {
        Doc.says(10, "n (0 .. 200) SORTS more of a KIND 0 .. 4 lie in a BOX (code: the LETTER, JOIN, ORNAMENT; of "
                + "SPACES, RULES not looked at): how many lie there.");
        Run r = new Run();
        r.does("fount", 0, 2);
        r.does("join", 0, 0, 1, -1, 1);
        r.is(0, "buy", 0, 0, 1, 0);
        r.is(200, "buy", 0, 0, 1, 200);
        r.is(400, "buy", 0, 0, 1, 200);
        r.is(400, "buy", 0, 0, 1, 0);
        r.is(7, "buy", 0, 1, 0, 7);
        r.is(8, "buy", 0, 2, MIN, 8);
        r.is(17, "buy", 0, 2, MAX, 9);
        r.is(5, "buy", 0, 3, -1, 5);
        r.is(11, "buy", 0, 3, 1, 6);
        r.is(3, "buy", 0, 4, 3, 3);
        r.is(400 + 7 + 17 + 11 + 3, "told", 2);
        Doc.says(10, "BAD;");
        for (int f : NO_FOUNTS) {
            r.bad("buy", f, 0, 0, 1);
        }
        for (int kind : new int[] {-1, 5, MIN, MAX}) {
            r.bad("buy", 0, kind, 0, 1);
            r.bad("buy", 1, kind, 0, 1);
        }
        for (int n : new int[] {-1, 201, MIN, MAX}) {
            r.bad("buy", 0, 0, 0, n);
            r.bad("buy", 1, 0, 0, n);
        }
        r.is(438, "told", 2);
        buyMuch();
        Doc.says(10, "NULL, INDEX: no such BOX.");
        r = Run.stocked(2, 1);
        for (int kind = 0; kind < 5; kind++) {
            r.isNull("buy", 1, kind, 99, 1);
        }
        for (int code : new int[] {-1, 24, MIN, MAX}) {
            r.index("buy", 0, 0, code, 1);
            r.index("buy", 0, 1, code, 0);
            r.index("buy", 0, 4, code, 1);
        }
        r.index("buy", 0, 0, 2, 1);
        r.index("buy", 0, 1, 0, 1);
        r.index("buy", 0, 4, 4, 1);
        r.is(8, "told", 2);
    }

    private static void buyMuch() {
        Doc.says(10, "FULL: this ROOM would have bought more than 4000;");
        Run r = new Run();
        r.does("fount", 0, 10);
        r.does("fount", 3, 10);
        for (int a = 0; a < 10; a++) {
            r.does("buy", 0, 0, a, 200);
            r.does("buy", 3, 0, a, a == 9 ? 199 : 200);
        }
        r.full("buy", 0, 2, 0, 2);
        r.full("buy", 1, 2, 0, 2);
        r.full("buy", 0, 0, 99, 200);
        r.is(3999, "told", 2);
        r.is(1, "buy", 0, 2, 0, 1);
        r.is(4000, "told", 2);
        r.is(1, "buy", 0, 2, 0, 0);
        r.full("buy", 0, 2, 0, 1);
        r.does("take", 0, 0, 2, 0);
        r.full("buy", 0, 2, 0, 1);
        r.does("room", 1);
        r.does("fount", 0, 0);
        r.is(200, "buy", 0, 2, 0, 200);
    }

    private static void left() {
        Doc.says(35, "How many lie in a BOX (code as for buy());");
        Run r = Run.stocked(2, 5);
        r.does("join", 0, 0, 1, -1, 1);
        r.does("buy", 0, 1, 0, 2);
        r.does("take", 0, 0, 0, 1);
        r.is(4, "left", 0, 0, 1);
        r.is(5, "left", 0, 0, 0);
        r.does("take", 1, 0, 1, 0);
        r.is(1, "left", 0, 1, 0);
        r.does("take", 2, 0, 2, 0);
        r.is(4, "left", 0, 2, MIN);
        r.is(4, "left", 0, 2, MAX);
        r.is(5, "left", 0, 3, -1);
        r.does("take", 3, 0, 4, 3);
        r.is(4, "left", 0, 4, 3);
        r.does("putBack", 3);
        r.is(5, "left", 0, 4, 3);
        Doc.says(35, "NONE: there is none such.");
        for (int code : new int[] {-1, 4, 24, MIN, MAX}) {
            r.none("left", 0, 0, code);
            r.none("left", 0, 1, code);
            r.none("left", 0, 4, code);
        }
        r.none("left", 0, 0, 2);
        r.none("left", 0, 1, 1);
        r.none("left", 1, 2, 0);
        r.none("left", 1, 3, 0);
        Doc.says(35, "BAD: f, kind is not 0 .. 4.");
        for (int f : NO_FOUNTS) {
            r.bad("left", f, 0, 0);
            r.bad("left", f, 2, 0);
        }
        for (int kind : new int[] {-1, 5, MIN, MAX}) {
            r.bad("left", 0, kind, 0);
            r.bad("left", 1, kind, 0);
        }
    }
}
