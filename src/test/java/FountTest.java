/** Promises 3 to 10 and 35: founts and cases. */
final class FountTest {
    public static void main(String[] args) {
        fount();
        width();
        kernRow();
        kern();
        join();
        ornament();
        spacing();
        buy();
        left();
        eachBoxForItself();
        stateWhileOut();
        stateComesAheadOfFaults();
        roomsHaveTheirOwn();
        Due.end();
    }

    private static void fount() {
        TypeRoom x = new TypeRoom();
        Due.is("fount(-1, 3)", x.fount(-1, 3), Bench.BAD);
        Due.is("fount(4, 3)", x.fount(4, 3), Bench.BAD);
        Due.is("fount(0, 25)", x.fount(0, 25), Bench.BAD);
        Due.is("fount(4, -1)", x.fount(4, -1), Bench.BAD);
        Due.is("told(1)", x.told(1), 0);
        Due.is("fount(0, -1)", x.fount(0, -1), Bench.SIZE);
        Due.is("fount(0, MIN)", x.fount(0, Bench.MIN), Bench.SIZE);
        Due.is("told(1)", x.told(1), 2);
        Due.is("left(0, 2, 0) of none", x.left(0, 2, 0), Bench.NONE);
        Due.is("fount(0, 0)", x.fount(0, 0), 1);
        Due.is("fount(0, -1) again", x.fount(0, -1), Bench.STATE);
        Due.is("left(0, 0, 0) of no letters", x.left(0, 0, 0), Bench.NONE);
        Due.is("left(0, 2, 0)", x.left(0, 2, 0), 0);
        Due.is("fount(3, 24)", x.fount(3, 24), 1);
        Due.is("left(3, 0, 23)", x.left(3, 0, 23), 0);
        Due.is("left(3, 0, 24)", x.left(3, 0, 24), Bench.NONE);
    }

    private static void width() {
        TypeRoom x = new TypeRoom();
        x.fount(1, 3);
        Due.is("width(4, 0, 1)", x.width(4, 0, 1), Bench.BAD);
        Due.is("width(-1, 0, 1)", x.width(-1, 0, 1), Bench.BAD);
        Due.is("width(1, 0, 0)", x.width(1, 0, 0), Bench.BAD);
        Due.is("width(1, 0, 31)", x.width(1, 0, 31), Bench.BAD);
        Due.is("width(0, 0, 1)", x.width(0, 0, 1), Bench.NULL);
        Due.is("width(1, 3, 1)", x.width(1, 3, 1), Bench.INDEX);
        Due.is("width(1, -1, 1)", x.width(1, -1, 1), Bench.INDEX);
        Due.is("width(1, 2, 30)", x.width(1, 2, 30), 1);
        Due.is("width(1, 2, 1)", x.width(1, 2, 1), 30);
        Due.is("width(1, 1, 7)", x.width(1, 1, 7), 1);
        x.buy(1, 0, 1, 1);
        x.take(0, 1, 0, 1);
        Due.is("ask(0, 0)", x.ask(0, 0), 7);
    }

    private static void kernRow() {
        TypeRoom x = new TypeRoom();
        x.fount(0, 3);
        Due.is("kernRow(4, 0, 1)", x.kernRow(4, 0, 1), Bench.BAD);
        Due.is("kernRow(0, 0, 25)", x.kernRow(0, 0, 25), Bench.BAD);
        Due.is("kernRow(1, 9, -2)", x.kernRow(1, 9, -2), Bench.NULL);
        Due.is("kernRow(0, 9, -2)", x.kernRow(0, 9, -2), Bench.SIZE);
        Due.is("kernRow(0, 3, 1)", x.kernRow(0, 3, 1), Bench.INDEX);
        Due.is("kernRow(0, -1, -1)", x.kernRow(0, -1, -1), Bench.INDEX);
        Due.is("kernRow(0, 2, 24)", x.kernRow(0, 2, 24), 1);
        Due.is("kern(0, 2, 23, 9)", x.kern(0, 2, 23, 9), 1);
        Due.is("kernRow(0, 2, 0)", x.kernRow(0, 2, 0), 1);
        Due.is("kern(0, 2, 0, 1)", x.kern(0, 2, 0, 1), Bench.INDEX);
        Due.is("kernRow(0, 2, -1)", x.kernRow(0, 2, -1), 1);
        Due.is("kern(0, 2, 0, 1)", x.kern(0, 2, 0, 1), Bench.NULL);
    }

    private static void kern() {
        TypeRoom x = Bench.stocked(3);
        Due.is("kern(0, 3, 0, 1)", x.kern(0, 3, 0, 1), Bench.INDEX);
        Due.is("kern(0, 0, 9, 1)", x.kern(0, 0, 9, 1), Bench.NULL);
        x.kernRow(0, 0, 2);
        Due.is("kern(-1, 0, 1, 1)", x.kern(-1, 0, 1, 1), Bench.BAD);
        Due.is("kern(0, 0, 1, 10)", x.kern(0, 0, 1, 10), Bench.BAD);
        Due.is("kern(0, 0, 1, -10)", x.kern(0, 0, 1, -10), Bench.BAD);
        Due.is("kern(1, 9, 9, 1)", x.kern(1, 9, 9, 1), Bench.NULL);
        Due.is("kern(0, 0, 2, 1)", x.kern(0, 0, 2, 1), Bench.INDEX);
        Due.is("kern(0, 0, -1, 1)", x.kern(0, 0, -1, 1), Bench.INDEX);
        Due.is("kern(0, 0, 1, 9)", x.kern(0, 0, 1, 9), 1);
        Due.is("kern(0, 0, 0, -9)", x.kern(0, 0, 0, -9), 1);
        Bench.write(x, 0, 0, 1, 2);
        x.set(0, 0, 30);
        Due.is("line(0, 4) with the kern of 0 and 1", x.line(0, 4), 12);
        x.drop(0);
        x.kernRow(0, 0, 2);
        x.set(0, 0, 30);
        Due.is("line(0, 4) with a new row of numbers 0", x.line(0, 4), 3);
    }

    private static void join() {
        TypeRoom x = Bench.stocked(3);
        Due.is("join(4, 0, 1, -1, 1)", x.join(4, 0, 1, -1, 1), Bench.BAD);
        Due.is("join(0, 0, 1, -1, 0)", x.join(0, 0, 1, -1, 0), Bench.BAD);
        Due.is("join(0, 0, 1, -1, 61)", x.join(0, 0, 1, -1, 61), Bench.BAD);
        Due.is("join(1, 9, 9, 9, 1)", x.join(1, 9, 9, 9, 1), Bench.NULL);
        Due.is("join(0, 3, 1, -1, 1)", x.join(0, 3, 1, -1, 1), Bench.INDEX);
        Due.is("join(0, -1, 1, -1, 1)", x.join(0, -1, 1, -1, 1), Bench.INDEX);
        Due.is("join(0, 0, -1, -1, 1)", x.join(0, 0, -1, -1, 1), Bench.INDEX);
        Due.is("join(0, 0, 1, 3, 1)", x.join(0, 0, 1, 3, 1), Bench.INDEX);
        Due.is("join(0, 0, 1, -2, 1)", x.join(0, 0, 1, -2, 1), Bench.INDEX);
        Due.is("buy(0, 1, 0, 1) of no join", x.buy(0, 1, 0, 1), Bench.INDEX);
        for (int j = 0; j < 6; j++) {
            Due.is("join of two", x.join(0, 2, 1, j % 2 == 0 ? -1 : 0, 60), j);
        }
        Due.is("join(0, 0, 1, -1, 1), a seventh", x.join(0, 0, 1, -1, 1), Bench.FULL);
        Due.is("join(0, 9, 9, 9, 1), a seventh", x.join(0, 9, 9, 9, 1), Bench.FULL);
        Due.is("buy(0, 1, 5, 2)", x.buy(0, 1, 5, 2), 2);
        Due.is("buy(0, 1, 6, 2)", x.buy(0, 1, 6, 2), Bench.INDEX);
        x.take(0, 0, 1, 5);
        Due.is("ask(0, 0)", x.ask(0, 0), 60);
        Due.is("ask(0, 3)", x.ask(0, 3), 5);
        Due.is("ask(0, 6)", x.ask(0, 6), 2);
    }

    private static void ornament() {
        TypeRoom x = Bench.stocked(0);
        Due.is("ornament(4, 0, 1)", x.ornament(4, 0, 1), Bench.BAD);
        Due.is("ornament(0, 0, 0)", x.ornament(0, 0, 0), Bench.BAD);
        Due.is("ornament(0, 0, 31)", x.ornament(0, 0, 31), Bench.BAD);
        Due.is("ornament(1, 9, 1)", x.ornament(1, 9, 1), Bench.NULL);
        Due.is("ornament(0, 4, 1)", x.ornament(0, 4, 1), Bench.INDEX);
        Due.is("ornament(0, -1, 1)", x.ornament(0, -1, 1), Bench.INDEX);
        Due.is("ornament(0, 1, 30)", x.ornament(0, 1, 30), 2);
        Due.is("ornament(0, 1, 9)", x.ornament(0, 1, 9), 30);
        x.take(0, 0, 4, 1);
        Due.is("ask(0, 0)", x.ask(0, 0), 9);
        Due.is("ask(0, 6)", x.ask(0, 6), 1);
    }

    private static void spacing() {
        TypeRoom x = Bench.stocked(1);
        Due.is("spacing(4, ..)", x.spacing(4, 3, 2, 1, 1), Bench.BAD);
        Due.is("space 0", x.spacing(0, 0, 2, 0, 1), Bench.BAD);
        Due.is("space 10", x.spacing(0, 10, 2, 1, 1), Bench.BAD);
        Due.is("stretch -1", x.spacing(0, 3, -1, 1, 1), Bench.BAD);
        Due.is("stretch 10", x.spacing(0, 3, 10, 1, 1), Bench.BAD);
        Due.is("shrink -1", x.spacing(0, 3, 2, -1, 1), Bench.BAD);
        Due.is("shrink above space", x.spacing(0, 3, 2, 4, 1), Bench.BAD);
        Due.is("height 0", x.spacing(0, 3, 2, 1, 0), Bench.BAD);
        Due.is("height 4", x.spacing(0, 3, 2, 1, 4), Bench.BAD);
        Due.is("no fount", x.spacing(1, 3, 2, 1, 1), Bench.NULL);
        Due.is("the least", x.spacing(0, 1, 0, 0, 1), 1);
        Due.is("the most", x.spacing(0, 9, 9, 9, 3), 1);
        x.take(0, 0, 2, 0);
        Due.is("ask(0, 0)", x.ask(0, 0), 9);
        Bench.write(x, 0, 0);
        x.set(0, 0, 5);
        x.makeup(9);
        Due.is("page(0, 2)", x.page(0, 2), 3);
    }

    private static void buy() {
        TypeRoom x = new TypeRoom();
        x.fount(0, 24);
        Due.is("buy(4, 0, 0, 1)", x.buy(4, 0, 0, 1), Bench.BAD);
        Due.is("buy(0, -1, 0, 1)", x.buy(0, -1, 0, 1), Bench.BAD);
        Due.is("buy(0, 5, 0, 1)", x.buy(0, 5, 0, 1), Bench.BAD);
        Due.is("buy(0, 0, 0, -1)", x.buy(0, 0, 0, -1), Bench.BAD);
        Due.is("buy(0, 0, 0, 201)", x.buy(0, 0, 0, 201), Bench.BAD);
        Due.is("buy(1, 0, 0, 1)", x.buy(1, 0, 0, 1), Bench.NULL);
        Due.is("buy(0, 0, 24, 1)", x.buy(0, 0, 24, 1), Bench.INDEX);
        Due.is("buy(0, 0, -1, 1)", x.buy(0, 0, -1, 1), Bench.INDEX);
        Due.is("buy(0, 4, 4, 1)", x.buy(0, 4, 4, 1), Bench.INDEX);
        Due.is("buy(0, 4, -1, 1)", x.buy(0, 4, -1, 1), Bench.INDEX);
        Due.is("buy(0, 3, MIN, 4)", x.buy(0, 3, Bench.MIN, 4), 4);
        Due.is("buy(0, 3, 7, 3)", x.buy(0, 3, 7, 3), 7);
        Due.is("buy(0, 2, -5, 0)", x.buy(0, 2, -5, 0), 0);
        Due.is("told(2)", x.told(2), 7);
        for (int k = 0; k < 19; k++) {
            Due.is("buy of 200", x.buy(0, 0, k, 200), 200);
        }
        Due.is("buy(0, 0, 20, 194)", x.buy(0, 0, 20, 194), Bench.FULL);
        Due.is("buy(1, 0, 0, 194)", x.buy(1, 0, 0, 194), Bench.FULL);
        Due.is("buy(0, 0, 20, 193)", x.buy(0, 0, 20, 193), 193);
        Due.is("told(2)", x.told(2), 4000);
        Due.is("buy(0, 0, 20, 0)", x.buy(0, 0, 20, 0), 193);
        Due.is("buy(0, 0, 20, 1)", x.buy(0, 0, 20, 1), Bench.FULL);
        x.room(1);
        x.fount(0, 1);
        Due.is("buy in the other room", x.buy(0, 0, 0, 200), 200);
    }

    private static void left() {
        TypeRoom x = Bench.stocked(2);
        x.join(0, 0, 1, -1, 3);
        x.buy(0, 1, 0, 4);
        x.text(0, -2);
        Due.is("left(-1, 0, 0)", x.left(-1, 0, 0), Bench.BAD);
        Due.is("left(4, 0, 0)", x.left(4, 0, 0), Bench.BAD);
        Due.is("left(0, -1, 0)", x.left(0, -1, 0), Bench.BAD);
        Due.is("left(0, 5, 0)", x.left(0, 5, 0), Bench.BAD);
        Due.is("left(1, 2, 0)", x.left(1, 2, 0), Bench.NONE);
        Due.is("left(0, 0, 2)", x.left(0, 0, 2), Bench.NONE);
        Due.is("left(0, 0, -1)", x.left(0, 0, -1), Bench.NONE);
        Due.is("left(0, 1, 1)", x.left(0, 1, 1), Bench.NONE);
        Due.is("left(0, 4, 4)", x.left(0, 4, 4), Bench.NONE);
        Due.is("left(0, 0, 1)", x.left(0, 0, 1), 60);
        Due.is("left(0, 1, 0)", x.left(0, 1, 0), 4);
        Due.is("left(0, 2, 99)", x.left(0, 2, 99), 60);
        Due.is("left(0, 3, -99)", x.left(0, 3, -99), 60);
        Due.is("left(0, 4, 3)", x.left(0, 4, 3), 60);
        x.take(0, 0, 0, 1);
        x.take(1, 0, 1, 0);
        x.take(2, 0, 2, 0);
        x.take(3, 0, 3, 0);
        x.take(4, 0, 4, 3);
        Due.is("left(0, 0, 1)", x.left(0, 0, 1), 59);
        Due.is("left(0, 1, 0)", x.left(0, 1, 0), 3);
        Due.is("left(0, 2, 0)", x.left(0, 2, 0), 59);
        Due.is("left(0, 3, 0)", x.left(0, 3, 0), 59);
        Due.is("left(0, 4, 3)", x.left(0, 4, 3), 59);
        Due.is("left(0, 4, 2)", x.left(0, 4, 2), 60);
        x.text(0, -2);
        x.left(0, 0, 0);
        Due.is("status() is not changed by left()", x.status(), Bench.SIZE);
    }

    /** No two BOXES are one, also in the greatest FOUNTS. */
    private static void eachBoxForItself() {
        TypeRoom x = new TypeRoom();
        int[] kinds = {24, 6, 1, 1, 4};
        for (int f = 0; f < 4; f++) {
            x.fount(f, 24);
            for (int j = 0; j < 6; j++) {
                x.join(f, j, 23, -1, 1);
            }
            for (int kind = 0; kind < 5; kind++) {
                for (int code = 0; code < kinds[kind]; code++) {
                    x.buy(f, kind, code, 10 * kind % 7 + code % 11 + f);
                }
            }
        }
        for (int f = 0; f < 4; f++) {
            for (int kind = 0; kind < 5; kind++) {
                for (int code = 0; code < kinds[kind]; code++) {
                    Due.is("left(" + f + ", " + kind + ", " + code + ")", x.left(f, kind, code),
                            10 * kind % 7 + code % 11 + f);
                }
            }
        }
    }

    private static void stateWhileOut() {
        TypeRoom x = Bench.stocked(2);
        x.fount(1, 2);
        x.take(9, 0, 4, 0);
        Due.is("width", x.width(0, 0, 1), Bench.STATE);
        Due.is("kernRow", x.kernRow(0, 0, 1), Bench.STATE);
        Due.is("kern", x.kern(0, 0, 0, 1), Bench.STATE);
        Due.is("join", x.join(0, 0, 1, -1, 1), Bench.STATE);
        Due.is("ornament", x.ornament(0, 0, 1), Bench.STATE);
        Due.is("spacing", x.spacing(0, 3, 2, 1, 1), Bench.STATE);
        Due.is("told(9): all refused", x.told(9), 1);
        Due.is("buy is not STATE", x.buy(0, 0, 0, 1), 61);
        Due.is("width of another fount", x.width(1, 0, 1), 1);
        x.tray(0, 1);
        x.lay(9, 0);
        Due.is("width, one in the tray", x.width(0, 0, 1), Bench.STATE);
        x.pick(0, 9);
        x.putBack(9);
        Due.is("width, none out", x.width(0, 0, 1), 1);
        Bench.write(x, 0, 0);
        x.set(0, 0, 1);
        Due.is("width, one in a line", x.width(0, 0, 1), Bench.STATE);
        x.makeup(1);
        x.lock();
        Due.is("width, one in a forme", x.width(0, 0, 1), Bench.STATE);
        x.distribute(1);
        Due.is("width, none out", x.width(0, 0, 1), 1);
    }

    private static void stateComesAheadOfFaults() {
        TypeRoom x = Bench.stocked(2);
        x.take(0, 0, 0, 0);
        Due.is("width(0, 9, 1)", x.width(0, 9, 1), Bench.STATE);
        Due.is("width(0, 9, 0)", x.width(0, 9, 0), Bench.BAD);
        Due.is("kernRow(0, 9, -2)", x.kernRow(0, 9, -2), Bench.STATE);
        Due.is("kern(0, 9, 9, 1)", x.kern(0, 9, 9, 1), Bench.STATE);
        Due.is("join(0, 9, 9, 9, 1)", x.join(0, 9, 9, 9, 1), Bench.STATE);
        Due.is("ornament(0, 9, 1)", x.ornament(0, 9, 1), Bench.STATE);
        Due.is("told(1)", x.told(1), 0);
    }

    private static void roomsHaveTheirOwn() {
        TypeRoom x = Bench.stocked(2);
        x.width(0, 0, 5);
        x.room(1);
        Due.is("width(0, 0, 1) in room 1", x.width(0, 0, 1), Bench.NULL);
        Due.is("fount(0, 3) in room 1", x.fount(0, 3), 1);
        Due.is("width(0, 0, 2) in room 1", x.width(0, 0, 2), 1);
        Due.is("told(2) in room 1", x.told(2), 0);
        x.room(0);
        Due.is("width(0, 0, 2) in room 0", x.width(0, 0, 2), 5);
    }
}
