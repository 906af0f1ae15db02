/** Promises 11 to 13, and how SIGNS are read. */
final class TextTest {
    public static void main(String[] args) {
        text();
        sign();
        note();
        textIsNoAct();
        readingOfSigns();
        readingOfJoins();
        readingOfStacks();
        readingWithoutLetters();
        roomsHaveTheirOwn();
        Due.end();
    }

    private static void text() {
        TypeRoom x = Bench.stocked(1);
        Due.is("text(-1, 1)", x.text(-1, 1), Bench.BAD);
        Due.is("text(12, 1)", x.text(12, 1), Bench.BAD);
        Due.is("text(0, 41)", x.text(0, 41), Bench.BAD);
        Due.is("text(12, -2)", x.text(12, -2), Bench.BAD);
        Due.is("text(0, -2)", x.text(0, -2), Bench.SIZE);
        Due.is("text(0, MIN)", x.text(0, Bench.MIN), Bench.SIZE);
        Due.is("sign(0, 0, 0)", x.sign(0, 0, 0), Bench.NULL);
        Due.is("text(0, 40)", x.text(0, 40), 1);
        Due.is("sign(0, 39, 32)", x.sign(0, 39, 32), 1);
        Due.is("text(0, -2)", x.text(0, -2), Bench.SIZE);
        Due.is("sign(0, 39, 32), still there", x.sign(0, 39, 32), 1);
        Due.is("text(0, 40)", x.text(0, 40), 1);
        x.set(0, 0, 300);
        Due.is("sortOf(0, 39, 0): a new row of signs 0", x.sortOf(0, 39, 0), 0);
        Due.is("text(0, 0)", x.text(0, 0), 1);
        Due.is("sign(0, 0, 0)", x.sign(0, 0, 0), Bench.INDEX);
        Due.is("text(0, -1)", x.text(0, -1), 1);
        Due.is("sign(0, 0, 0)", x.sign(0, 0, 0), Bench.NULL);
        Due.is("text(11, 1)", x.text(11, 1), 1);
    }

    private static void sign() {
        TypeRoom x = Bench.stocked(2);
        x.text(3, 2);
        Due.is("sign(-1, 0, 0)", x.sign(-1, 0, 0), Bench.BAD);
        Due.is("sign(12, 0, 0)", x.sign(12, 0, 0), Bench.BAD);
        Due.is("sign(3, 0, -1)", x.sign(3, 0, -1), Bench.BAD);
        Due.is("sign(3, 0, 128)", x.sign(3, 0, 128), Bench.BAD);
        Due.is("sign(4, 9, 0)", x.sign(4, 9, 0), Bench.NULL);
        Due.is("sign(3, 2, 0)", x.sign(3, 2, 0), Bench.INDEX);
        Due.is("sign(3, -1, 0)", x.sign(3, -1, 0), Bench.INDEX);
        Due.is("sign(3, 1, 127)", x.sign(3, 1, 127), 1);
        Due.is("sign(3, 1, 1)", x.sign(3, 1, 1), 1);
        x.set(3, 0, 10);
        Due.is("sortOf(0, 0, 1)", x.sortOf(0, 0, 1), 0);
        Due.is("sortOf(0, 1, 1)", x.sortOf(0, 1, 1), 1);
    }

    private static void note() {
        TypeRoom x = new TypeRoom();
        Due.is("note(-1, 1)", x.note(-1, 1), Bench.BAD);
        Due.is("note(12, 1)", x.note(12, 1), Bench.BAD);
        Due.is("note(0, -1)", x.note(0, -1), Bench.BAD);
        Due.is("note(0, 10)", x.note(0, 10), Bench.BAD);
        Due.is("status()", x.status(), Bench.BAD);
        Due.is("note(0, 9)", x.note(0, 9), 2);
        Due.is("status()", x.status(), 0);
        Due.is("note(0, 0)", x.note(0, 0), 9);
        Due.is("note(0, 1)", x.note(0, 1), 0);
        Due.is("note(11, 1)", x.note(11, 1), 2);
        x.room(1);
        Due.is("note(0, 1) in room 1", x.note(0, 1), 2);
    }

    private static void textIsNoAct() {
        TypeRoom x = Bench.stocked(2);
        x.take(0, 0, 0, 0);
        x.text(0, 3);
        x.sign(0, 0, 1);
        x.note(0, 5);
        Due.is("told(9)", x.told(9), 1);
        Due.is("undo()", x.undo(), 1);
        Due.is("note(0, 1): notes are not undone", x.note(0, 1), 5);
        Due.is("sign(0, 2, 1): paragraphs are not undone", x.sign(0, 2, 1), 1);
    }

    private static void readingOfSigns() {
        TypeRoom x = Bench.stocked(4);
        Bench.write(x, 0, 3, 32, 61, 45, 75, 96, 99, 2);
        Due.is("set(0, 0, 300)", x.set(0, 0, 300), 1);
        int[] kinds = {0, 2, 3, 4, 4, 0};
        int[] codes = {3, 0, 0, 0, 3, 2};
        Due.is("line(0, 3)", x.line(0, 3), kinds.length);
        for (int k = 0; k < kinds.length; k++) {
            Due.is("kind of sort " + k, x.sortOf(0, k, 0), kinds[k]);
            Due.is("code of sort " + k, x.sortOf(0, k, 1), codes[k]);
        }
        int[] beyond = {4, 23, 24, 31, 33, 44, 46, 60, 62, 63, 76, 93, 95, 100, 127};
        for (int sign : beyond) {
            Bench.write(x, 1, 0, sign);
            Due.is("set of sign " + sign, x.set(1, 0, 9), Bench.INDEX);
        }
        Due.is("told(4)", x.told(4), 1);
    }

    private static void readingOfJoins() {
        TypeRoom x = Bench.stocked(4);
        x.join(0, 0, 1, -1, 4);
        x.join(0, 0, 1, 2, 6);
        x.join(0, 0, 1, 2, 7);
        x.join(0, 0, 1, -1, 8);
        x.join(0, 1, 2, 3, 9);
        for (int j = 0; j < 5; j++) {
            x.buy(0, 1, j, 9);
        }
        Bench.write(x, 0, 0, 1, 2, 3, 0, 1, 3, 1, 2, 3, 0, 1);
        x.set(0, 0, 300);
        Due.is("line(0, 3)", x.line(0, 3), 6);
        int[] kinds = {1, 0, 1, 0, 1, 1};
        int[] codes = {0, 3, 0, 3, 1, 0};
        for (int k = 0; k < kinds.length; k++) {
            Due.is("kind of sort " + k, x.sortOf(0, k, 0), kinds[k]);
            Due.is("code of sort " + k, x.sortOf(0, k, 1), codes[k]);
        }
        Due.is("left(0, 1, 0): the first of like ones", x.left(0, 1, 0), 7);
        Due.is("left(0, 1, 1): the longest", x.left(0, 1, 1), 8);
        Due.is("left(0, 1, 2)", x.left(0, 1, 2), 9);
        Due.is("left(0, 1, 3)", x.left(0, 1, 3), 9);
        Due.is("left(0, 1, 4)", x.left(0, 1, 4), 8);
        Due.is("line(0, 4)", x.line(0, 4), 6 + 1 + 4 + 1 + 9 + 4);
        Bench.write(x, 0, 0, 45, 1, 0, 64, 1, 0);
        x.set(0, 0, 300);
        Due.is("hyphens and calls part the letters of a join", x.line(1, 3), 5);
        Due.is("kind", x.sortOf(1, 0, 0), 0);
    }

    private static void readingOfStacks() {
        TypeRoom x = Bench.stocked(4);
        x.join(0, 0, 1, -1, 4);
        x.buy(0, 1, 0, 9);
        x.width(0, 2, 5);
        Bench.write(x, 0, 94, 0, 1, 0, 1);
        x.set(0, 0, 300);
        Due.is("line(0, 3)", x.line(0, 3), 2);
        Due.is("a stack", x.sortOf(0, 0, 0), 5);
        Due.is("its code", x.sortOf(0, 0, 1), 0);
        Due.is("behind it a join", x.sortOf(0, 1, 0), 1);
        Due.is("told(3)", x.told(3), 3);
        Due.is("left(0, 0, 0)", x.left(0, 0, 0), 59);
        Due.is("left(0, 0, 1)", x.left(0, 0, 1), 59);
        Bench.write(x, 0, 94, 2, 0);
        x.set(0, 0, 300);
        Due.is("the wider one first", x.line(1, 4), 5);
        Bench.write(x, 0, 94, 0, 2);
        x.set(0, 0, 300);
        Due.is("the wider one second", x.line(2, 4), 5);
        stackFault(x, Bench.INDEX, 94);
        stackFault(x, Bench.INDEX, 94, 0);
        stackFault(x, Bench.CAST, 94, 32);
        stackFault(x, Bench.CAST, 94, 61);
        stackFault(x, Bench.CAST, 94, 96);
        stackFault(x, Bench.CAST, 94, 99, 127);
        stackFault(x, Bench.INDEX, 94, 127, 32);
        stackFault(x, Bench.CAST, 94, 0, 32);
        stackFault(x, Bench.CAST, 94, 0, 61);
        stackFault(x, Bench.CAST, 94, 0, 97);
        stackFault(x, Bench.INDEX, 94, 45, 0);
        stackFault(x, Bench.INDEX, 94, 0, 64);
        stackFault(x, Bench.INDEX, 94, 94, 0, 1);
        stackFault(x, Bench.INDEX, 127, 94, 32);
        Due.is("told(4)", x.told(4), 3);
    }

    private static void stackFault(TypeRoom x, int fault, int... signs) {
        Bench.write(x, 5, signs);
        Due.is("set of " + java.util.Arrays.toString(signs), x.set(5, 0, 300), fault);
    }

    private static void readingWithoutLetters() {
        TypeRoom x = Bench.stocked(0);
        Bench.write(x, 0, 45);
        Due.is("a hyphen without letter 0", x.set(0, 0, 10), Bench.INDEX);
        Bench.write(x, 0, 0);
        Due.is("letter 0", x.set(0, 0, 10), Bench.INDEX);
        Bench.write(x, 0, 32, 61, 64, 96);
        Due.is("none of these is a letter", x.set(0, 0, 10), 1);
    }

    private static void roomsHaveTheirOwn() {
        TypeRoom x = new TypeRoom();
        x.text(0, 2);
        x.room(1);
        Due.is("sign(0, 0, 0) in room 1", x.sign(0, 0, 0), Bench.NULL);
        x.room(0);
        Due.is("sign(0, 0, 0) in room 0", x.sign(0, 0, 0), 1);
    }
}
