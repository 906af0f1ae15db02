/** Promises 14 to 21 and 36: the stick, the tray, what sorts do, the trace. */
final class StickTest {
    public static void main(String[] args) {
        take();
        putBack();
        stack();
        stackOfTwoFounts();
        ask();
        bodies();
        bodiesOfStacks();
        traceStaysWhenRefused();
        added();
        tray();
        undoInTheTray();
        trayTypes();
        lay();
        pick();
        Due.end();
    }

    /** LETTER 0 at 0, JOINED 1 (LETTERS 1, 0) at 1, SPACE at 2, RULE at 3, ORNAMENT 2 at 4; the rest are holes. */
    private static TypeRoom filled() {
        TypeRoom x = Bench.stocked(3);
        x.width(0, 0, 4);
        x.join(0, 2, 2, -1, 1);
        x.join(0, 1, 0, -1, 7);
        x.buy(0, 1, 1, 5);
        x.ornament(0, 2, 6);
        x.spacing(0, 5, 2, 1, 1);
        x.take(0, 0, 0, 0);
        x.take(1, 0, 1, 1);
        x.take(2, 0, 2, 0);
        x.take(3, 0, 3, 0);
        x.take(4, 0, 4, 2);
        return x;
    }

    private static void take() {
        TypeRoom x = new TypeRoom();
        x.fount(0, 2);
        x.buy(0, 0, 0, 1);
        Due.is("take(-1, 0, 0, 0)", x.take(-1, 0, 0, 0), Bench.BAD);
        Due.is("take(10, 0, 0, 0)", x.take(10, 0, 0, 0), Bench.BAD);
        Due.is("take(0, 4, 0, 0)", x.take(0, 4, 0, 0), Bench.BAD);
        Due.is("take(0, 0, 5, 0)", x.take(0, 0, 5, 0), Bench.BAD);
        Due.is("take(0, 0, -1, 0)", x.take(0, 0, -1, 0), Bench.BAD);
        Due.is("take(0, 1, 0, 0)", x.take(0, 1, 0, 0), Bench.NULL);
        Due.is("take(0, 0, 0, 2)", x.take(0, 0, 0, 2), Bench.INDEX);
        Due.is("take(0, 0, 0, -1)", x.take(0, 0, 0, -1), Bench.INDEX);
        Due.is("take(0, 0, 1, 0)", x.take(0, 0, 1, 0), Bench.INDEX);
        Due.is("take(0, 0, 4, 4)", x.take(0, 0, 4, 4), Bench.INDEX);
        Due.is("take(0, 0, 0, 1)", x.take(0, 0, 0, 1), Bench.EMPTY);
        Due.is("take(0, 0, 2, 77)", x.take(0, 0, 2, 77), Bench.EMPTY);
        Due.is("told(9)", x.told(9), 0);
        Due.is("take(9, 0, 0, 0)", x.take(9, 0, 0, 0), 1);
        Due.is("left(0, 0, 0)", x.left(0, 0, 0), 0);
        Due.is("told(3)", x.told(3), 1);
        Due.is("told(9)", x.told(9), 1);
        Due.is("take(8, 0, 0, 0)", x.take(8, 0, 0, 0), Bench.EMPTY);
        Due.is("take(9, 1, 0, 0)", x.take(9, 1, 0, 0), Bench.STATE);
        x.buy(0, 2, 0, 1);
        Due.is("take(0, 0, 2, 77)", x.take(0, 0, 2, 77), 1);
        Due.is("ask(0, 6)", x.ask(0, 6), 0);
    }

    private static void putBack() {
        TypeRoom x = filled();
        Due.is("putBack(-1)", x.putBack(-1), Bench.BAD);
        Due.is("putBack(10)", x.putBack(10), Bench.BAD);
        Due.is("putBack(9)", x.putBack(9), Bench.NULL);
        x.stack(0, 1);
        Due.is("putBack(0) of a stack", x.putBack(0), 2);
        Due.is("left(0, 0, 0)", x.left(0, 0, 0), 60);
        Due.is("left(0, 1, 1)", x.left(0, 1, 1), 5);
        Due.is("putBack(0)", x.putBack(0), Bench.NULL);
        Due.is("putBack(2)", x.putBack(2), 1);
        Due.is("left(0, 2, 0)", x.left(0, 2, 0), 60);
        Due.is("putBack(3)", x.putBack(3), 1);
        Due.is("left(0, 3, 0)", x.left(0, 3, 0), 60);
        Due.is("putBack(4)", x.putBack(4), 1);
        Due.is("left(0, 4, 2)", x.left(0, 4, 2), 60);
        Due.is("told(3)", x.told(3), 0);
        Due.is("undo()", x.undo(), 1);
        Due.is("told(3)", x.told(3), 1);
        Due.is("ask(4, 4)", x.ask(4, 4), 4);
    }

    private static void stack() {
        TypeRoom x = filled();
        Due.is("stack(-1, 0)", x.stack(-1, 0), Bench.BAD);
        Due.is("stack(0, 10)", x.stack(0, 10), Bench.BAD);
        Due.is("stack(0, 0)", x.stack(0, 0), Bench.BAD);
        Due.is("stack(9, 9)", x.stack(9, 9), Bench.BAD);
        Due.is("stack(0, 9)", x.stack(0, 9), Bench.NULL);
        Due.is("stack(9, 0)", x.stack(9, 0), Bench.NULL);
        Due.is("stack(9, 8)", x.stack(9, 8), Bench.NULL);
        Due.is("stack(9, 2)", x.stack(9, 2), Bench.CAST);
        Due.is("stack(2, 9)", x.stack(2, 9), Bench.CAST);
        Due.is("stack(0, 3)", x.stack(0, 3), Bench.CAST);
        Due.is("stack(4, 0)", x.stack(4, 0), Bench.CAST);
        Due.is("stack(1, 0)", x.stack(1, 0), 1);
        Due.is("ask(0, 0)", x.ask(0, 0), Bench.NULL);
        Due.is("ask(1, 4)", x.ask(1, 4), 5);
        Due.is("ask(1, 6)", x.ask(1, 6), 0);
        Due.is("told(3)", x.told(3), 5);
        x.take(0, 0, 0, 1);
        Due.is("stack(0, 1) of a stack", x.stack(0, 1), Bench.CAST);
        Due.is("stack(1, 0) of a stack", x.stack(1, 0), Bench.CAST);
    }

    private static void stackOfTwoFounts() {
        TypeRoom x = Bench.stocked(1);
        x.fount(2, 3);
        Bench.stock(x, 2, 3, 2);
        x.width(2, 2, 9);
        x.take(0, 2, 0, 2);
        x.take(1, 0, 0, 0);
        x.stack(0, 1);
        Due.is("ask(0, 5)", x.ask(0, 5), 2);
        Due.is("ask(0, 0)", x.ask(0, 0), 9);
        Due.is("ask(0, 2)", x.ask(0, 2), 5 * 13 + 7);
        Due.is("width(0, 0, 1)", x.width(0, 0, 1), Bench.STATE);
        Due.is("width(2, 0, 1)", x.width(2, 0, 1), Bench.STATE);
        x.putBack(0);
        Due.is("left(0, 0, 0)", x.left(0, 0, 0), 60);
        Due.is("left(2, 0, 2)", x.left(2, 0, 2), 2);
    }

    private static void ask() {
        TypeRoom x = filled();
        Due.is("ask(-1, 0)", x.ask(-1, 0), Bench.BAD);
        Due.is("ask(10, 0)", x.ask(10, 0), Bench.BAD);
        Due.is("ask(0, -1)", x.ask(0, -1), Bench.BAD);
        Due.is("ask(0, 7)", x.ask(0, 7), Bench.BAD);
        for (int what = 0; what < 7; what++) {
            Due.is("ask(9, what) of a hole", x.ask(9, what), Bench.NULL);
        }
        x.take(5, 0, 0, 2);
        x.take(6, 0, 0, 1);
        x.stack(5, 6);
        int cast = Bench.CAST;
        int[][] answers = {
            {4, cast, 7, cast, 0, 0, 0},
            {7, cast, 3 + 7 + 100 + 1, 1, 1, 0, 1},
            {5, 1, cast, cast, 2, 0, 0},
            {0, 3, 9, cast, 3, 0, 0},
            {6, cast, 15, cast, 4, 0, 2},
            {1, cast, 5 * 13 + 10, cast, 5, 0, 0},
        };
        for (int i = 0; i < answers.length; i++) {
            for (int what = 0; what < 7; what++) {
                Due.is("ask(" + i + ", " + what + ")", x.ask(i, what), answers[i][what]);
                Due.is("status()", x.status(), Math.min(0, answers[i][what]));
            }
        }
    }

    private static void bodies() {
        TypeRoom x = filled();
        traced(x, 0, 0, 1);
        traced(x, 1, 0, 2);
        traced(x, 2, 0, 3, 6);
        traced(x, 3, 0, 3, 7);
        traced(x, 4, 0, 4);
        traced(x, 2, 1, 10);
        traced(x, 3, 1, 11, 10);
        traced(x, 0, 2, 21);
        traced(x, 1, 2, 22, 21);
        traced(x, 3, 2, 20, 3, 7);
        traced(x, 4, 2, 20, 4);
        traced(x, 1, 3);
        for (int i = 0; i < 5; i++) {
            traced(x, i, 4);
            traced(x, i, 5);
            traced(x, i, 6);
        }
    }

    private static void bodiesOfStacks() {
        TypeRoom x = filled();
        x.stack(0, 1);
        traced(x, 0, 0, 5, 1, 2);
        traced(x, 0, 2, 23, 21, 22, 21);
        x.undo();
        x.stack(1, 0);
        traced(x, 1, 0, 5, 2, 1);
        traced(x, 1, 2, 23, 22, 21, 21);
        traced(x, 1, 5);
    }

    private static void traced(TypeRoom x, int i, int what, int... bodies) {
        String call = "ask(" + i + ", " + what + ")";
        x.ask(i, what);
        Due.is(call + ", told(8)", x.told(8), bodies.length);
        for (int k = 0; k < bodies.length; k++) {
            Due.is(call + ", trace(" + k + ")", x.trace(k), bodies[k]);
        }
        Due.is(call + ", trace behind it", x.trace(bodies.length), Bench.NONE);
        Due.is(call + ", trace(-1)", x.trace(-1), Bench.NONE);
    }

    private static void traceStaysWhenRefused() {
        TypeRoom x = filled();
        x.ask(3, 2);
        x.ask(0, 1);
        Due.is("told(8) after a cast", x.told(8), 3);
        x.ask(9, 0);
        Due.is("told(8) after a null", x.told(8), 3);
        x.ask(9, 7);
        Due.is("told(8) after BAD", x.told(8), 3);
        x.print(1);
        Due.is("told(8) after BAD", x.told(8), 3);
        x.undo();
        x.room(1);
        Due.is("told(8) in the other room", x.told(8), 3);
        Due.is("trace(0) in the other room", x.trace(0), 20);
        x.room(0);
        x.text(0, 1);
        x.set(0, 0, 5);
        Due.is("told(8) after set()", x.told(8), 3);
        x.ask(0, 4);
        Due.is("told(8) of an ask without bodies", x.told(8), 0);
        Due.is("trace(0)", x.trace(0), Bench.NONE);
    }

    private static void added() {
        TypeRoom x = filled();
        Due.is("added(-1, 0)", x.added(-1, 0), Bench.BAD);
        Due.is("added(10, 0)", x.added(10, 0), Bench.BAD);
        Due.is("added(2, -1)", x.added(2, -1), Bench.BAD);
        Due.is("added(2, 100)", x.added(2, 100), Bench.BAD);
        Due.is("added(9, 0)", x.added(9, 0), Bench.NULL);
        Due.is("added(0, 0)", x.added(0, 0), Bench.CAST);
        Due.is("added(1, 0)", x.added(1, 0), Bench.CAST);
        Due.is("added(4, 0)", x.added(4, 0), Bench.CAST);
        Due.is("added(2, 99)", x.added(2, 99), 1);
        Due.is("ask(2, 0)", x.ask(2, 0), 104);
        Due.is("added(3, 8)", x.added(3, 8), 1);
        Due.is("ask(3, 0)", x.ask(3, 0), 8);
        Due.is("ask(3, 2)", x.ask(3, 2), 17);
        Due.is("undo()", x.undo(), 1);
        Due.is("ask(3, 0)", x.ask(3, 0), 0);
        Due.is("ask(2, 0)", x.ask(2, 0), 104);
        Due.is("added(2, 0)", x.added(2, 0), 1);
        Due.is("ask(2, 0)", x.ask(2, 0), 5);
        x.added(2, 9);
        x.putBack(2);
        x.take(2, 0, 2, 0);
        Due.is("ask(2, 0): a sort from its box has none added", x.ask(2, 0), 5);
    }

    private static void tray() {
        TypeRoom x = filled();
        Due.is("lay(0, 0) without a tray", x.lay(0, 0), Bench.NULL);
        Due.is("pick(0, 9) without a tray", x.pick(0, 9), Bench.NULL);
        Due.is("tray(-1, 1)", x.tray(-1, 1), Bench.BAD);
        Due.is("tray(3, 1)", x.tray(3, 1), Bench.BAD);
        Due.is("tray(0, 9)", x.tray(0, 9), Bench.BAD);
        Due.is("tray(0, -1)", x.tray(0, -1), Bench.SIZE);
        Due.is("tray(0, MIN)", x.tray(0, Bench.MIN), Bench.SIZE);
        Due.is("tray(0, 0)", x.tray(0, 0), 1);
        Due.is("lay(0, 0) in a tray of none", x.lay(0, 0), Bench.INDEX);
        Due.is("pick(0, 9) of a tray of none", x.pick(0, 9), Bench.INDEX);
        Due.is("tray(0, 8)", x.tray(0, 8), 1);
        Due.is("lay(0, 7)", x.lay(0, 7), 1);
        Due.is("tray(0, -1), a sort lies there", x.tray(0, -1), Bench.STATE);
        Due.is("told(3)", x.told(3), 5);
        Due.is("pick(7, 0)", x.pick(7, 0), 1);
        Due.is("tray(1, 2)", x.tray(1, 2), 1);
        Due.is("lay(0, 7)", x.lay(0, 7), Bench.INDEX);
        Due.is("undo()", x.undo(), 1);
        Due.is("lay(0, 7), the former tray", x.lay(0, 7), 1);
    }

    private static void undoInTheTray() {
        TypeRoom x = filled();
        x.tray(1, 2);
        x.tray(2, 2);
        x.undo();
        Due.is("lay(0, 0), the former type", x.lay(0, 0), 1);
        Due.is("tray(0, 1), a sort lies at place 0", x.tray(0, 1), Bench.STATE);
        x.lay(1, 1);
        x.undo();
        Due.is("tray(0, 1), it lies there still", x.tray(0, 1), Bench.STATE);
        x.pick(0, 8);
        Due.is("undo()", x.undo(), 1);
        Due.is("ask(8, 4)", x.ask(8, 4), Bench.NULL);
        Due.is("pick(0, 7)", x.pick(0, 7), 1);
        Due.is("ask(7, 4)", x.ask(7, 4), 0);
    }

    private static void trayTypes() {
        TypeRoom x = filled();
        x.take(5, 0, 0, 1);
        x.take(6, 0, 0, 1);
        x.stack(5, 6);
        int store = Bench.STORE;
        int[][] answers = {
            {1, 1, 1, 1, 1, 1, 1},
            {1, 1, store, store, store, store, 1},
            {store, store, 1, 1, store, store, 1},
        };
        for (int type = 0; type < 3; type++) {
            x.tray(type, 1);
            for (int i = 0; i < 7; i++) {
                Due.is("tray of type " + type + ", lay(" + i + ", 0)", x.lay(i, 0), answers[type][i]);
                x.pick(0, i);
            }
        }
    }

    private static void lay() {
        TypeRoom x = filled();
        x.tray(1, 2);
        Due.is("lay(-1, 0)", x.lay(-1, 0), Bench.BAD);
        Due.is("lay(10, 0)", x.lay(10, 0), Bench.BAD);
        Due.is("lay(2, -1)", x.lay(2, -1), Bench.INDEX);
        Due.is("lay(2, 2)", x.lay(2, 2), Bench.INDEX);
        Due.is("lay(2, 1)", x.lay(2, 1), Bench.STORE);
        Due.is("ask(2, 4): it stays", x.ask(2, 4), 2);
        Due.is("lay(0, 1)", x.lay(0, 1), 1);
        Due.is("ask(0, 4)", x.ask(0, 4), Bench.NULL);
        Due.is("lay(2, 1), a sort is there", x.lay(2, 1), Bench.STATE);
        Due.is("lay(9, 1), a hole on a sort", x.lay(9, 1), Bench.STATE);
        Due.is("lay(9, 0), a hole", x.lay(9, 0), 1);
        Due.is("undo()", x.undo(), 1);
        Due.is("undo()", x.undo(), Bench.STATE);
        Due.is("pick(1, 0)", x.pick(1, 0), 1);
        Due.is("ask(0, 6)", x.ask(0, 6), 0);
    }

    private static void pick() {
        TypeRoom x = filled();
        x.tray(2, 2);
        x.added(3, 4);
        x.lay(3, 1);
        Due.is("pick(1, -1)", x.pick(1, -1), Bench.BAD);
        Due.is("pick(1, 10)", x.pick(1, 10), Bench.BAD);
        Due.is("pick(9, 0), a sort is there", x.pick(9, 0), Bench.STATE);
        Due.is("pick(-1, 9)", x.pick(-1, 9), Bench.INDEX);
        Due.is("pick(2, 9)", x.pick(2, 9), Bench.INDEX);
        Due.is("pick(0, 9), a hole", x.pick(0, 9), 1);
        Due.is("ask(9, 4)", x.ask(9, 4), Bench.NULL);
        Due.is("pick(1, 9)", x.pick(1, 9), 1);
        Due.is("ask(9, 0)", x.ask(9, 0), 4);
        Due.is("pick(1, 8), a hole now", x.pick(1, 8), 1);
        Due.is("told(3)", x.told(3), 5);
    }
}
