/** Promises 1, 2, 33, 34 and 37: rooms, undo, status, what is told; and the limit of FAULTS. */
final class ActTest {
    public static void main(String[] args) {
        newObject();
        room();
        undoOfEachAct();
        keptInPlaceOfWhatWasKept();
        keptGoes();
        keptStays();
        keptOfEachRoom();
        undoAndNumbers();
        status();
        told();
        refusedChangesNothing();
        faultsOfBothRooms();
        fullOfFaults();
        oneCallMayGoBeyond();
        Due.end();
    }

    private static void newObject() {
        TypeRoom x = new TypeRoom();
        for (int r = 0; r < 2; r++) {
            for (int what = 0; what < 10; what++) {
                Due.is("told(" + what + ")", x.told(what), what == 0 ? r : 0);
            }
            Due.is("status()", x.status(), 0);
            Due.is("trace(0)", x.trace(0), Bench.NONE);
            Due.is("forme(0)", x.forme(0), Bench.NONE);
            Due.is("line(0, 0)", x.line(0, 0), Bench.BAD);
            Due.is("page(0, 0)", x.page(0, 0), Bench.BAD);
            for (int f = 0; f < 4; f++) {
                Due.is("left(f, 2, 0)", x.left(f, 2, 0), Bench.NONE);
            }
            for (int p = 0; p < 12; p++) {
                Due.is("note(p, 2)", x.note(p, 2), 2);
            }
            Due.is("undo()", x.undo(), Bench.STATE);
            x.room(1);
        }
    }

    private static void room() {
        TypeRoom x = new TypeRoom();
        Due.is("room(-1)", x.room(-1), Bench.BAD);
        Due.is("status()", x.status(), Bench.BAD);
        Due.is("room(2)", x.room(2), Bench.BAD);
        Due.is("told(0)", x.told(0), 0);
        Due.is("room(0)", x.room(0), 0);
        Due.is("status()", x.status(), 0);
        Due.is("room(1)", x.room(1), 0);
        Due.is("told(0)", x.told(0), 1);
        Due.is("room(1)", x.room(1), 1);
        Due.is("room(0)", x.room(0), 1);
    }

    /** In room 0: LETTERS at 0 and 1, a SPACE at 2, a RULE in the TRAY, a LINE, a PAGE, a FORME. */
    private static TypeRoom busy() {
        TypeRoom x = Bench.stocked(2);
        Bench.writeWords(x, 0, 2);
        x.set(0, 0, 1);
        x.makeup(9);
        x.lock();
        x.take(0, 0, 0, 0);
        x.take(1, 0, 0, 1);
        x.take(2, 0, 2, 0);
        x.take(3, 0, 3, 0);
        x.tray(0, 4);
        x.lay(3, 2);
        x.set(0, 0, 1);
        x.makeup(1);
        return x;
    }

    private static int act(TypeRoom x, int which) {
        switch (which) {
            case 0: return x.take(9, 0, 4, 1);
            case 1: return x.putBack(0);
            case 2: return x.stack(1, 0);
            case 3: return x.added(2, 5);
            case 4: return x.lay(0, 0);
            case 5: return x.pick(2, 9);
            case 6: return x.set(0, 0, 1);
            case 7: return x.drop(1);
            case 8: return x.makeup(9);
            case 9: return x.lock();
            case 10: return x.distribute(1);
            default: return x.tray(1, 1);
        }
    }

    private static void undoOfEachAct() {
        for (int which = 0; which < 11; which++) {
            TypeRoom x = busy();
            String before = View.of(x);
            Due.isTrue("act " + which + " is done", act(x, which) > 0);
            Due.isTrue("act " + which + " does something", !View.of(x).equals(before));
            Due.is("told(9)", x.told(9), 1);
            Due.is("undo()", x.undo(), 1);
            Due.is("told(9)", x.told(9), 0);
            String after = View.of(x);
            Due.isTrue("act " + which + " is undone: " + before + " / " + after, after.equals(before));
            Due.is("undo()", x.undo(), Bench.STATE);
        }
        TypeRoom x = Bench.stocked(1);
        x.take(0, 0, 2, 0);
        x.tray(0, 3);
        x.tray(1, 1);
        Due.is("undo() of tray()", x.undo(), 1);
        Due.is("lay(0, 2)", x.lay(0, 2), 1);
    }

    private static void keptInPlaceOfWhatWasKept() {
        TypeRoom x = Bench.stocked(2);
        x.take(0, 0, 0, 0);
        x.take(1, 0, 0, 1);
        x.undo();
        Due.is("told(3)", x.told(3), 1);
        Due.is("undo()", x.undo(), Bench.STATE);
        x.take(1, 0, 0, 1);
        x.take(1, 0, 0, 1);
        x.putBack(5);
        Due.is("undo() of what was done", x.undo(), 1);
        Due.is("told(3)", x.told(3), 1);
    }

    private static int foundry(TypeRoom x, int which) {
        switch (which) {
            case 0: return x.fount(3, 1);
            case 1: return x.width(1, 0, 2);
            case 2: return x.kernRow(1, 0, 2);
            case 3: return x.kern(1, 1, 0, 2);
            case 4: return x.join(1, 0, 1, -1, 2) + 1;
            case 5: return x.ornament(1, 0, 3);
            case 6: return x.spacing(1, 3, 2, 1, 1);
            default: return x.buy(1, 0, 0, 3);
        }
    }

    private static int failing(TypeRoom x, int which) {
        switch (which) {
            case 0: return x.fount(2, -1);
            case 1: return x.width(1, 9, 2);
            case 2: return x.kernRow(1, 9, 2);
            case 3: return x.kern(1, 0, 0, 2);
            case 4: return x.join(1, 0, 9, -1, 2);
            case 5: return x.ornament(1, 4, 3);
            case 6: return x.spacing(2, 3, 2, 1, 1);
            default: return x.buy(1, 0, 9, 3);
        }
    }

    private static void keptGoes() {
        for (int which = 0; which < 8; which++) {
            TypeRoom x = Bench.stocked(1);
            x.fount(1, 2);
            x.kernRow(1, 1, 2);
            x.take(0, 0, 0, 0);
            Due.isTrue("fault of " + which, failing(x, which) < -20);
            Due.is("told(9) after a fault", x.told(9), 1);
            Due.isTrue("done " + which, foundry(x, which) > 0);
            Due.is("told(9)", x.told(9), 0);
            Due.is("undo()", x.undo(), Bench.STATE);
            Due.is("told(3)", x.told(3), 1);
        }
        TypeRoom x = Bench.stocked(1);
        x.take(0, 0, 0, 0);
        x.width(0, 0, 1);
        Due.is("told(9) after STATE", x.told(9), 1);
        x.buy(0, 0, 0, 201);
        Due.is("told(9) after BAD", x.told(9), 1);
        x.buy(0, 0, 0, 0);
        Due.is("told(9) after buying none", x.told(9), 0);
    }

    private static void keptStays() {
        TypeRoom x = Bench.stocked(1);
        x.take(0, 0, 0, 0);
        x.ask(0, 0);
        x.text(0, 1);
        x.sign(0, 0, 0);
        x.note(0, 0);
        x.print(1);
        x.room(0);
        x.status();
        Due.is("told(9)", x.told(9), 1);
        Due.is("undo()", x.undo(), 1);
        Due.is("told(3)", x.told(3), 0);
    }

    private static void keptOfEachRoom() {
        TypeRoom x = Bench.stocked(1);
        x.take(0, 0, 0, 0);
        x.room(1);
        Due.is("told(9) in room 1", x.told(9), 0);
        Due.is("undo() in room 1", x.undo(), Bench.STATE);
        x.fount(0, 1);
        x.buy(0, 0, 0, 2);
        x.take(0, 0, 0, 0);
        x.take(1, 0, 0, 0);
        x.room(0);
        Due.is("undo() in room 0", x.undo(), 1);
        Due.is("told(3) in room 0", x.told(3), 0);
        x.room(1);
        Due.is("told(3) in room 1", x.told(3), 2);
        Due.is("undo() in room 1", x.undo(), 1);
        Due.is("told(3) in room 1", x.told(3), 1);
    }

    private static void undoAndNumbers() {
        TypeRoom x = busy();
        Due.is("told(7)", x.told(7), 1);
        Due.is("lock()", x.lock(), 2);
        x.undo();
        Due.is("told(7)", x.told(7), 3);
        Due.is("lock()", x.lock(), 4);
        Due.is("forme(0)", x.forme(0), 1);
        Due.is("forme(1)", x.forme(1), 4);
        Due.is("print(2)", x.print(2), 0);
    }

    private static void status() {
        TypeRoom x = busy();
        Due.is("status()", x.status(), 0);
        x.width(0, 0, 99);
        Due.is("status()", x.status(), Bench.BAD);
        x.take(0, 0, 0, 0);
        Due.is("status()", x.status(), Bench.STATE);
        x.sign(9, 0, 0);
        Due.is("status()", x.status(), Bench.NULL);
        x.line(99, 0);
        x.line(0, 0);
        x.sortOf(0, 0, 0);
        x.page(0, 0);
        x.noteOf(0, 0);
        x.forme(0);
        x.left(0, 0, 0);
        x.left(9, 0, 0);
        x.trace(0);
        x.told(1);
        x.told(10);
        Due.is("status() after those that do not change it", x.status(), Bench.NULL);
        Due.is("status()", x.status(), Bench.NULL);
        x.ask(0, 0);
        Due.is("status()", x.status(), 0);
        x.print(77);
        Due.is("status()", x.status(), Bench.BAD);
        x.print(1);
        Due.is("status()", x.status(), 0);
        x.undo();
        x.undo();
        Due.is("status()", x.status(), Bench.STATE);
        x.note(0, 0);
        Due.is("status()", x.status(), 0);
        x.take(0, 0, 0, -1);
        x.room(1);
        Due.is("status()", x.status(), 0);
        x.lock();
        Due.is("status()", x.status(), Bench.STATE);
        x.room(0);
        x.lay(2, 9);
        Due.is("status()", x.status(), Bench.INDEX);
        x.drop(99);
        Due.is("status()", x.status(), Bench.BAD);
        x.drop(0);
        Due.is("status()", x.status(), 0);
    }

    private static void told() {
        TypeRoom x = busy();
        x.lay(0, 9);
        x.ask(2, 0);
        int[] due = {0, 1, 60 * 8, 2 + 4 + 2, 2, 2, 1, 1, 2, 1};
        for (int what = 0; what < due.length; what++) {
            Due.is("told(" + what + ")", x.told(what), due[what]);
        }
        Due.is("told(-1)", x.told(-1), Bench.BAD);
        Due.is("told(10)", x.told(10), Bench.BAD);
        x.room(1);
        int[] dueThere = {1, 1, 0, 0, 0, 0, 0, 1, 2, 0};
        for (int what = 0; what < due.length; what++) {
            Due.is("told(" + what + ")", x.told(what), dueThere[what]);
        }
    }

    private static void refusedChangesNothing() {
        TypeRoom x = busy();
        String before = View.of(x);
        int[] answers = {
            x.take(0, 0, 0, 0), x.take(9, 0, 0, 7), x.putBack(9), x.stack(0, 2), x.stack(0, 9), x.added(0, 1),
            x.tray(0, 1), x.lay(0, 2), x.lay(0, 4), x.pick(2, 0), x.pick(4, 9), x.set(9, 0, 1), x.set(0, 0, -1),
            x.drop(2), x.makeup(0), x.distribute(9), x.width(0, 0, 9), x.spacing(0, 9, 9, 9, 3), x.buy(0, 0, 9, 1),
            x.fount(0, 9), x.room(2),
        };
        for (int i = 0; i < answers.length; i++) {
            Due.isTrue("answer " + i + " is a refusal or fault", answers[i] < 0);
        }
        Due.isTrue("nothing is changed", View.of(x).equals(before));
        Due.is("told(9)", x.told(9), 1);
    }

    private static void faultsOfBothRooms() {
        TypeRoom x = new TypeRoom();
        x.sign(0, 0, 0);
        x.room(1);
        Due.is("told(1)", x.told(1), 1);
        x.sign(0, 0, 0);
        Due.is("told(1)", x.told(1), 2);
        x.sign(0, 0, 128);
        Due.is("told(1): BAD is no fault", x.told(1), 2);
    }

    private static void fullOfFaults() {
        TypeRoom x = Bench.stocked(1);
        Bench.bringFaults(x, 0, 0, 2999);
        Due.is("told(1)", x.told(1), 2999);
        Due.is("width(0, 0, 2)", x.width(0, 0, 2), 1);
        Due.is("width(0, 9, 2)", x.width(0, 9, 2), Bench.INDEX);
        Due.is("told(1)", x.told(1), 3000);
        int full = Bench.FULL;
        Due.is("fount(1, 1)", x.fount(1, 1), full);
        Due.is("fount(0, 1)", x.fount(0, 1), Bench.STATE);
        Due.is("fount(4, 1)", x.fount(4, 1), Bench.BAD);
        Due.is("width(0, 0, 2)", x.width(0, 0, 2), full);
        Due.is("kernRow(0, 0, 2)", x.kernRow(0, 0, 2), full);
        Due.is("kern(0, 0, 0, 2)", x.kern(0, 0, 0, 2), full);
        Due.is("join(0, 0, 0, -1, 2)", x.join(0, 0, 0, -1, 2), full);
        Due.is("ornament(0, 0, 2)", x.ornament(0, 0, 2), full);
        Due.is("spacing(0, 3, 2, 1, 1)", x.spacing(0, 3, 2, 1, 1), full);
        Due.is("buy(0, 0, 0, 1)", x.buy(0, 0, 0, 1), full);
        Due.is("text(0, 1)", x.text(0, 1), full);
        Due.is("sign(0, 0, 1)", x.sign(0, 0, 1), full);
        Due.is("take(0, 0, 0, 0)", x.take(0, 0, 0, 0), full);
        Due.is("putBack(0)", x.putBack(0), full);
        Due.is("stack(0, 1)", x.stack(0, 1), full);
        Due.is("ask(0, 0)", x.ask(0, 0), full);
        Due.is("added(0, 0)", x.added(0, 0), full);
        Due.is("tray(0, 0)", x.tray(0, 0), full);
        Due.is("lay(0, 0)", x.lay(0, 0), full);
        Due.is("pick(0, 0)", x.pick(0, 0), full);
        Due.is("set(0, 0, 1)", x.set(0, 0, 1), full);
        Due.is("set(0, 0, 301)", x.set(0, 0, 301), Bench.BAD);
        Due.is("status()", x.status(), Bench.BAD);
        Due.is("told(1)", x.told(1), 3000);
        Due.is("drop(0)", x.drop(0), Bench.BAD);
        Due.is("makeup(1)", x.makeup(1), Bench.STATE);
        Due.is("lock()", x.lock(), Bench.STATE);
        Due.is("distribute(1)", x.distribute(1), Bench.BAD);
        Due.is("undo()", x.undo(), Bench.STATE);
        Due.is("note(0, 1)", x.note(0, 1), 2);
        Due.is("room(1)", x.room(1), 0);
        Due.is("text(0, 1) in the other room", x.text(0, 1), full);
    }

    private static void oneCallMayGoBeyond() {
        TypeRoom x = Bench.stocked(1);
        x.take(0, 0, 3, 0);
        Bench.bringFaults(x, 0, 0, 2980);
        int[] signs = new int[40];
        java.util.Arrays.fill(signs, Bench.SPACE);
        signs[39] = 0;
        Bench.write(x, 0, signs);
        Due.is("set(0, 0, 1)", x.set(0, 0, 1), 40);
        Due.is("told(1)", x.told(1), 3019);
        Due.is("take(0, 0, 0, 0)", x.take(0, 0, 0, 0), Bench.STATE);
        Due.is("putBack(0)", x.putBack(0), Bench.FULL);
        Due.is("makeup(60)", x.makeup(60), 1);
        Due.is("lock()", x.lock(), 1);
        Due.is("print(1)", x.print(1), 31 * 17 + 7);
        Due.is("distribute(1)", x.distribute(1), 1);
        Due.is("undo()", x.undo(), 1);
        Due.is("told(6)", x.told(6), 1);
    }
}
