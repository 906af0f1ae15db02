/** Promises 29 to 32: formes and their numbers. */
final class FormeTest {
    public static void main(String[] args) {
        lock();
        twelveFormes();
        fourHundredNumbers();
        forme();
        print();
        printWrapsAround();
        printOfNothing();
        traceOfPrint();
        distribute();
        distributeOfStacks();
        numbersOfTheHouse();
        Due.end();
    }

    private static void addFormes(TypeRoom x, int formes) {
        Bench.writeWords(x, 0, formes);
        x.set(0, 0, 1);
        x.makeup(1);
        x.lock();
    }

    private static void lock() {
        TypeRoom x = Bench.stocked(1);
        Due.is("lock() of nothing", x.lock(), Bench.STATE);
        Bench.writeWords(x, 0, 3);
        x.set(0, 0, 1);
        Due.is("lock() without pages", x.lock(), Bench.STATE);
        x.makeup(1);
        Due.is("lock()", x.lock(), 1);
        Due.is("told(3)", x.told(3), 3);
        Due.is("told(4)", x.told(4), 0);
        Due.is("told(5)", x.told(5), 0);
        Due.is("told(6)", x.told(6), 3);
        Due.is("told(7)", x.told(7), 3);
        Due.is("lock()", x.lock(), Bench.STATE);
        x.set(0, 0, 1);
        x.makeup(9);
        Due.is("lock()", x.lock(), 4);
        Due.is("told(6)", x.told(6), 4);
        Due.is("undo()", x.undo(), 1);
        Due.is("told(4)", x.told(4), 3);
        Due.is("told(5)", x.told(5), 1);
        Due.is("told(6)", x.told(6), 3);
        Due.is("told(7): numbers are given once", x.told(7), 4);
        Due.is("lock()", x.lock(), 5);
    }

    private static void twelveFormes() {
        TypeRoom x = Bench.stocked(1);
        addFormes(x, 9);
        Bench.writeWords(x, 0, 4);
        x.set(0, 0, 1);
        x.makeup(1);
        Due.is("lock() of a thirteenth", x.lock(), Bench.FULL);
        Due.is("told(6)", x.told(6), 9);
        Due.is("told(5)", x.told(5), 4);
        x.drop(3);
        x.makeup(1);
        Due.is("lock() of a twelfth", x.lock(), 10);
        Due.is("forme(11)", x.forme(11), 12);
        x.text(0, 1);
        x.set(0, 0, 1);
        x.makeup(1);
        Due.is("lock()", x.lock(), Bench.FULL);
        x.distribute(4);
        x.makeup(1);
        Due.is("lock()", x.lock(), 13);
    }

    private static void fourHundredNumbers() {
        TypeRoom x = Bench.stocked(1);
        Bench.writeWords(x, 0, 12);
        x.set(0, 0, 1);
        x.makeup(1);
        for (int i = 0; i < 33; i++) {
            Due.is("lock()", x.lock(), 12 * i + 1);
            x.undo();
        }
        Due.is("told(7)", x.told(7), 396);
        Due.is("lock() of 12 more", x.lock(), Bench.FULL);
        x.drop(5);
        x.makeup(1);
        Due.is("lock() of 5 more", x.lock(), Bench.FULL);
        x.drop(4);
        x.makeup(1);
        Due.is("lock() of 4 more", x.lock(), 397);
        Due.is("told(7)", x.told(7), 400);
        Due.is("forme(3)", x.forme(3), 400);
        x.undo();
        Due.is("lock()", x.lock(), Bench.FULL);
        x.room(1);
        x.fount(0, 0);
        x.text(0, 0);
        x.set(0, 0, 0);
        x.makeup(1);
        Due.is("lock() in the other room", x.lock(), Bench.FULL);
    }

    private static void forme() {
        TypeRoom x = Bench.stocked(1);
        Due.is("forme(0)", x.forme(0), Bench.NONE);
        addFormes(x, 3);
        x.text(0, -2);
        Due.is("forme(-1)", x.forme(-1), Bench.NONE);
        Due.is("forme(3)", x.forme(3), Bench.NONE);
        Due.is("forme(2)", x.forme(2), 3);
        Due.is("status() is not changed by forme()", x.status(), Bench.SIZE);
        x.distribute(2);
        Due.is("forme(1)", x.forme(1), 3);
        Due.is("forme(2)", x.forme(2), Bench.NONE);
    }

    private static void print() {
        TypeRoom x = Bench.stocked(3);
        x.join(0, 1, 2, -1, 4);
        x.buy(0, 1, 0, 3);
        x.ornament(0, 1, 8);
        Bench.write(x, 0, 0, 32, 1, 2, 61, 32, 97, 45, 94, 1, 2, 0, 0, 0);
        Due.is("set(0, 0, 14)", x.set(0, 0, 14), 2);
        Due.is("line(0, 4)", x.line(0, 4), 14);
        Due.is("sortOf(0, 1, 2)", x.sortOf(0, 1, 2), 2);
        Due.is("sortOf(0, 3, 2)", x.sortOf(0, 3, 2), 4);
        x.makeup(9);
        x.lock();
        long d = 17;
        int[] impressions = {7, 3 + 2, 10 + 100, 9 + 4, 8 + 9, 5 * 10 + 13, 7, 7, 7};
        for (int more : impressions) {
            d = 31 * d + more;
        }
        Due.is("print(1)", x.print(1), d);
        Due.is("status()", x.status(), 0);
        Due.is("print(0)", x.print(0), 0);
        Due.is("status()", x.status(), Bench.BAD);
        Due.is("print(2)", x.print(2), 0);
        Due.is("print(-1)", x.print(-1), 0);
        Due.is("told(1)", x.told(1), 0);
    }

    private static void printWrapsAround() {
        TypeRoom x = Bench.stocked(1);
        x.text(0, 40);
        x.set(0, 0, 300);
        x.makeup(1);
        x.lock();
        long d = 17;
        for (int i = 0; i < 40; i++) {
            d = 31 * d + 7;
        }
        Due.is("print(1)", x.print(1), d);
    }

    private static void printOfNothing() {
        TypeRoom x = Bench.stocked(1);
        x.text(0, 0);
        x.set(0, 0, 3);
        x.makeup(1);
        x.lock();
        x.take(0, 0, 3, 0);
        x.ask(0, 2);
        Due.is("print(1)", x.print(1), 17);
        Due.is("told(8)", x.told(8), 0);
        Due.is("distribute(1)", x.distribute(1), 0);
        Due.is("status()", x.status(), 0);
    }

    private static void traceOfPrint() {
        TypeRoom x = Bench.stocked(1);
        x.text(0, 40);
        for (int i = 0; i < 40; i++) {
            x.sign(0, i, i % 2 == 0 ? Bench.RULE : Bench.SPACE);
        }
        Due.is("set(0, 0, 300)", x.set(0, 0, 300), 1);
        x.makeup(1);
        x.lock();
        x.print(1);
        Due.is("told(8)", x.told(8), 20 * 3 + 20 * 2);
        int[] bodies = {20, 3, 7, 3, 6};
        for (int i = 0; i < 60; i++) {
            Due.is("trace(" + i + ")", x.trace(i), bodies[i % 5]);
        }
        Due.is("trace(60)", x.trace(60), Bench.NONE);
        Due.is("trace(MIN)", x.trace(Bench.MIN), Bench.NONE);
    }

    private static void distribute() {
        TypeRoom x = Bench.stocked(1);
        addFormes(x, 4);
        Due.is("distribute(0)", x.distribute(0), Bench.BAD);
        Due.is("distribute(5)", x.distribute(5), Bench.BAD);
        Due.is("distribute(2)", x.distribute(2), 1);
        Due.is("distribute(2)", x.distribute(2), Bench.BAD);
        Due.is("print(2)", x.print(2), 0);
        Due.is("told(6)", x.told(6), 3);
        Due.is("told(3)", x.told(3), 3);
        Due.is("left(0, 0, 0)", x.left(0, 0, 0), 57);
        int[] numbers = {1, 3, 4, Bench.NONE};
        for (int i = 0; i < 4; i++) {
            Due.is("forme(" + i + ")", x.forme(i), numbers[i]);
        }
        Due.is("undo()", x.undo(), 1);
        for (int i = 0; i < 4; i++) {
            Due.is("forme(" + i + ")", x.forme(i), i + 1);
        }
        Due.is("print(2)", x.print(2), 31 * 17 + 7);
        Due.is("left(0, 0, 0)", x.left(0, 0, 0), 56);
    }

    private static void distributeOfStacks() {
        TypeRoom x = Bench.stocked(2);
        Bench.write(x, 0, 94, 0, 1, 32, 97, 61);
        x.set(0, 0, 9);
        x.makeup(1);
        x.lock();
        Due.is("told(3)", x.told(3), 5);
        Due.is("distribute(1)", x.distribute(1), 5);
        Due.is("told(3)", x.told(3), 0);
    }

    private static void numbersOfTheHouse() {
        TypeRoom x = Bench.stocked(1);
        addFormes(x, 2);
        x.room(1);
        x.fount(0, 1);
        Bench.stock(x, 0, 1, 9);
        Due.is("told(7)", x.told(7), 2);
        addFormes(x, 1);
        Due.is("forme(0)", x.forme(0), 3);
        Due.is("print(1), of the other room", x.print(1), 0);
        Due.is("distribute(1), of the other room", x.distribute(1), Bench.BAD);
        x.room(0);
        Due.is("print(3), of the other room", x.print(3), 0);
        addFormes(x, 1);
        Due.is("forme(2)", x.forme(2), 4);
    }
}
