import com.sun.management.ThreadMXBean;
import java.lang.management.ManagementFactory;
import java.util.Arrays;

/**
 * What the dearest runs of calls make stays below 600,000 objects and 7.3 million fields and elements: an object
 * takes 16 bytes at least and most fields take 4, so that one bound of bytes keeps both.
 */
final class SpaceTest {
    private static final long MOST_BYTES = 16 * 600000L;
    private static final int TIMES = 400, LINES = 89;
    private static final ThreadMXBean MACHINE = (ThreadMXBean) ManagementFactory.getThreadMXBean();

    public static void main(String[] args) {
        long before = made();
        setWithoutSorts();
        before = isSmall("set() that meets EMPTY", before);
        setAndUndo();
        before = isSmall("set() and undo()", before);
        makeUp();
        isSmall("makeup()", before);
        Due.end();
    }

    private static long made() {
        return MACHINE.getThreadAllocatedBytes(Thread.currentThread().getId());
    }

    private static long isSmall(String calls, long before) {
        long bytes = made() - before;
        Due.isTrue("a run of " + calls + " makes " + bytes + " bytes", bytes > 0 && bytes < MOST_BYTES);
        return made();
    }

    /** As many LINES at the MEASURE 0, none of which has a SORT. */
    private static void writeLines(TypeRoom x, int p, int lines) {
        int[] signs = new int[lines];
        Arrays.fill(signs, Bench.SPACE);
        signs[lines - 1] = Bench.CALL + p;
        Bench.write(x, p, signs);
    }

    /** LINES are made ahead of looking for their SORTS. */
    private static void setWithoutSorts() {
        TypeRoom x = new TypeRoom();
        x.fount(0, 1);
        Bench.writeWords(x, 0, 20);
        for (int i = 0; i < TIMES; i++) {
            Due.is("set(0, 0, 1)", x.set(0, 0, 1), Bench.EMPTY);
        }
    }

    private static void setAndUndo() {
        TypeRoom x = new TypeRoom();
        x.fount(0, 1);
        writeLines(x, 0, 40);
        for (int i = 0; i < TIMES / 2; i++) {
            Due.is("set(0, 0, 0)", x.set(0, 0, 0), 40);
            Due.is("undo()", x.undo(), 1);
        }
    }

    /** The GALLEY has as many LINES as it ever can, each a PAGE. */
    private static void makeUp() {
        TypeRoom x = new TypeRoom();
        x.fount(0, 1);
        writeLines(x, 0, 40);
        writeLines(x, 1, 9);
        x.set(0, 0, 0);
        x.set(1, 0, 0);
        x.set(0, 0, 0);
        for (int i = 0; i < TIMES; i++) {
            Due.is("makeup(1)", x.makeup(1), LINES);
        }
    }
}
