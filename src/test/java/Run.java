import java.util.Arrays;

/** A run of calls on a new object, each with the answer that is due; no more of them than the document allows. */
final class Run {
    private static final int MOST_CALLS = 512;
    private static final String SILENT = " line sortOf page noteOf forme status left trace told ";

    private final TypeRoom x = new TypeRoom();
    private int calls = 0;

    /** FOUNT 0 has n LETTERS; in each of its BOXES are so many SORTS. */
    static Run stocked(int n, int each) {
        Run run = new Run();
        run.stock(0, n, each);
        return run;
    }

    void stock(int f, int n, int each) {
        does("fount", f, n);
        for (int a = 0; a < n; a++) {
            does("buy", f, 0, a, each);
        }
        does("buy", f, 2, 0, each);
        does("buy", f, 3, 0, each);
        for (int k = 0; k < 4; k++) {
            does("buy", f, 4, k, each);
        }
    }

    void write(int p, int... signs) {
        does("text", p, signs.length);
        for (int i = 0; i < signs.length; i++) {
            if (signs[i] != 0) {
                does("sign", p, i, signs[i]);
            }
        }
    }

    /** A paragraph of as many words, each of one LETTER 0; each word is a LINE at the MEASURE 1. */
    void writeWords(int p, int words) {
        int[] signs = new int[2 * words - 1];
        for (int i = 1; i < signs.length; i += 2) {
            signs[i] = Bench.SPACE;
        }
        write(p, signs);
    }

    private long call(String name, int... a) {
        calls++;
        Due.isTrue("no more than " + MOST_CALLS + " calls", calls <= MOST_CALLS);
        return Caller.call(x, name, a);
    }

    private static String text(String name, int... a) {
        return name + Arrays.toString(a).replace('[', '(').replace(']', ')');
    }

    void is(long due, String name, int... a) {
        Due.is(text(name, a), call(name, a), due);
    }

    /** The answers from the first argument 0 on. */
    void are(String name, int... due) {
        for (int i = 0; i < due.length; i++) {
            is(due[i], name, i);
        }
    }

    void does(String name, int... a) {
        long answer = call(name, a);
        boolean isDone = name.equals("print") ? call("status") == 0 : answer >= 0;
        Due.isTrue(text(name, a) + " is done, and not refused with " + answer, isDone);
    }

    void bad(String name, int... a) {
        refused(Bench.BAD, name, a);
    }

    void state(String name, int... a) {
        refused(Bench.STATE, name, a);
    }

    void full(String name, int... a) {
        refused(Bench.FULL, name, a);
    }

    void none(String name, int... a) {
        refused(Bench.NONE, name, a);
    }

    void isNull(String name, int... a) {
        fault(Bench.NULL, name, a);
    }

    void index(String name, int... a) {
        fault(Bench.INDEX, name, a);
    }

    void cast(String name, int... a) {
        fault(Bench.CAST, name, a);
    }

    void size(String name, int... a) {
        fault(Bench.SIZE, name, a);
    }

    void store(String name, int... a) {
        fault(Bench.STORE, name, a);
    }

    void empty(String name, int... a) {
        fault(Bench.EMPTY, name, a);
    }

    private void refused(int due, String name, int... a) {
        long faults = call("told", 1);
        long status = call("status");
        boolean isSilent = SILENT.contains(" " + name + " ");
        is(name.equals("print") ? 0 : due, name, a);
        Due.is(text(name, a) + ", status()", call("status"), isSilent ? status : due);
        Due.is(text(name, a) + ", told(1)", call("told", 1), faults);
    }

    private void fault(int due, String name, int... a) {
        long faults = call("told", 1);
        is(due, name, a);
        Due.is(text(name, a) + ", status()", call("status"), due);
        Due.is(text(name, a) + ", told(1)", call("told", 1), faults + 1);
    }

    /** Brings so many FAULTS more: 39 with each LINE that has nothing to be justified by, the rest one by one. */
    void bringFaults(int count) {
        int[] signs = new int[40];
        Arrays.fill(signs, Bench.SPACE);
        signs[39] = Bench.CALL;
        write(11, signs);
        int left = count;
        for (; left >= 39; left -= 39) {
            does("set", 11, 0, 1);
            does("undo");
        }
        for (; left > 0; left--) {
            is(Bench.SIZE, "text", 10, -2);
        }
    }
}
