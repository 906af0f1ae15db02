/** What the tests have in common: a room with type to work with. */
final class Bench {
    static final int BAD = -1, STATE = -2, FULL = -3, NONE = -4;
    static final int NULL = -21, INDEX = -22, CAST = -23, SIZE = -24, STORE = -26, EMPTY = -27;
    static final int SPACE = 32, HYPHEN = 45, RULE = 61, CALL = 64, STACK = 94, ORNAMENT = 96;
    static final int MIN = Integer.MIN_VALUE, MAX = Integer.MAX_VALUE;

    private Bench() {
    }

    /** A room whose FOUNT 0 has n LETTERS, with 60 SORTS in each BOX but those for JOINS. */
    static TypeRoom stocked(int n) {
        TypeRoom x = new TypeRoom();
        x.fount(0, n);
        stock(x, 0, n, 60);
        return x;
    }

    static void stock(TypeRoom x, int f, int letters, int each) {
        for (int a = 0; a < letters; a++) {
            x.buy(f, 0, a, each);
        }
        x.buy(f, 2, 0, each);
        x.buy(f, 3, 0, each);
        for (int k = 0; k < 4; k++) {
            x.buy(f, 4, k, each);
        }
    }

    static void write(TypeRoom x, int p, int... signs) {
        x.text(p, signs.length);
        for (int i = 0; i < signs.length; i++) {
            x.sign(p, i, signs[i]);
        }
    }

    /** A paragraph of as many LINES as words, each of one LETTER 0, when it is set to the MEASURE 1. */
    static void writeWords(TypeRoom x, int p, int words) {
        int[] signs = new int[2 * words - 1];
        for (int i = 1; i < signs.length; i += 2) {
            signs[i] = SPACE;
        }
        write(x, p, signs);
    }

    /** Brings as many FAULTS, by 39 LINES at a time that have nothing to be justified by. */
    static void bringFaults(TypeRoom x, int f, int p, int count) {
        int[] signs = new int[40];
        java.util.Arrays.fill(signs, SPACE);
        signs[39] = 0;
        write(x, p, signs);
        int until = x.told(1) + count;
        while (until - x.told(1) >= 39) {
            x.set(p, f, 1);
            x.undo();
        }
        while (x.told(1) < until) {
            x.text(p, -2);
        }
    }
}
