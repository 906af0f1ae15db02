/** Promises 22 to 25: paragraphs set as lines. */
final class LineTest {
    public static void main(String[] args) {
        refusals();
        orderOfRefusals();
        emptyParagraph();
        stretched();
        loose();
        shrunk();
        tight();
        notJustified();
        lastLines();
        hyphens();
        hyphenAtTheEnd();
        kerns();
        spacesAtBreaks();
        tiesGoToTheEarlierBreak();
        emptyGivesBack();
        emptyForHyphenAndStack();
        fullGalley();
        drop();
        dropOfStacks();
        line();
        sortOf();
        Due.end();
    }

    /** Words of so many LETTERS 0, with a SPACE between two. */
    private static void writeWords(TypeRoom x, int p, int... lengths) {
        int n = lengths.length - 1;
        for (int length : lengths) {
            n += length;
        }
        int[] signs = new int[n];
        int at = 0;
        for (int w = 0; w < lengths.length - 1; w++) {
            at += lengths[w];
            signs[at++] = Bench.SPACE;
        }
        Bench.write(x, p, signs);
    }

    private static void added(TypeRoom x, int l, int... due) {
        int at = 0;
        for (int k = 0; k < x.line(l, 3); k++) {
            int kind = x.sortOf(l, k, 0);
            if (kind == 2 || kind == 3) {
                Due.is("added to gap " + at + " of line " + l, x.sortOf(l, k, 2), at < due.length ? due[at] : -99);
                at++;
            }
        }
        Due.is("gaps of line " + l, at, due.length);
    }

    private static void refusals() {
        TypeRoom x = Bench.stocked(1);
        x.text(0, 1);
        Due.is("set(-1, 0, 1)", x.set(-1, 0, 1), Bench.BAD);
        Due.is("set(12, 0, 1)", x.set(12, 0, 1), Bench.BAD);
        Due.is("set(0, -1, 1)", x.set(0, -1, 1), Bench.BAD);
        Due.is("set(0, 4, 1)", x.set(0, 4, 1), Bench.BAD);
        Due.is("set(0, 0, 301)", x.set(0, 0, 301), Bench.BAD);
        Due.is("set(1, 0, -1)", x.set(1, 0, -1), Bench.NULL);
        Due.is("set(0, 1, -1)", x.set(0, 1, -1), Bench.NULL);
        Due.is("set(0, 0, -1)", x.set(0, 0, -1), Bench.SIZE);
        Due.is("set(0, 0, MIN)", x.set(0, 0, Bench.MIN), Bench.SIZE);
        Due.is("told(1)", x.told(1), 4);
        Due.is("set(0, 0, 300)", x.set(0, 0, 300), 1);
        Due.is("set(0, 0, 0)", x.set(0, 0, 0), 1);
        Due.is("told(1)", x.told(1), 4);
    }

    private static void orderOfRefusals() {
        TypeRoom x = Bench.stocked(1);
        Bench.write(x, 0, 1);
        Due.is("SIZE ahead of reading", x.set(0, 0, -1), Bench.SIZE);
        Due.is("INDEX ahead of EMPTY", x.set(0, 0, 1), Bench.INDEX);
        Bench.write(x, 0, 94, 32, 77);
        Due.is("the first fault", x.set(0, 0, 1), Bench.CAST);
        Bench.write(x, 0, 77, 94, 32);
        Due.is("the first fault", x.set(0, 0, 1), Bench.INDEX);
        Due.is("told(9)", x.told(9), 0);
    }

    private static void emptyParagraph() {
        TypeRoom x = Bench.stocked(0);
        x.text(4, 0);
        Due.is("set(4, 0, 7)", x.set(4, 0, 7), 1);
        int[] due = {4, 0, 0, 0, 0, 7, 0, 0, 1, 0};
        for (int what = 0; what < due.length; what++) {
            Due.is("line(0, " + what + ")", x.line(0, what), due[what]);
        }
        Bench.write(x, 5, 64, 64);
        Due.is("set of calls alone", x.set(5, 0, 7), 1);
        Due.is("line(1, 3)", x.line(1, 3), 0);
        Due.is("told(3)", x.told(3), 0);
    }

    private static void stretched() {
        TypeRoom x = Bench.stocked(1);
        Bench.write(x, 0, 0, 32, 0, 61, 0, 32, 0, 0, 0, 0, 0, 0, 0, 0, 0, 0, 0, 0);
        Due.is("set(0, 0, 12)", x.set(0, 0, 12), 2);
        added(x, 0, 2, 4);
        Due.is("line(0, 4)", x.line(0, 4), 12);
        Due.is("line(0, 6)", x.line(0, 6), 0);
        Due.is("line(0, 9)", x.line(0, 9), 36);
        Due.is("line(1, 3)", x.line(1, 3), 12);
        Due.is("left(0, 2, 0): the space at the break is not set", x.left(0, 2, 0), 59);
        Due.is("set(0, 0, 14)", x.set(0, 0, 14), 2);
        added(x, 2, 2, 6);
        Due.is("line(2, 6): u is no more than stretch times s", x.line(2, 6), 0);
        Due.is("line(2, 9)", x.line(2, 9), 64);
    }

    private static void loose() {
        TypeRoom x = Bench.stocked(1);
        Bench.write(x, 0, 0, 32, 0, 61, 0, 32, 0, 0, 0, 0, 0, 0, 0, 0, 0, 0, 0, 0);
        Due.is("set(0, 0, 15)", x.set(0, 0, 15), 2);
        added(x, 0, 3, 6);
        Due.is("line(0, 4)", x.line(0, 4), 15);
        Due.is("line(0, 6)", x.line(0, 6), 1);
        Due.is("line(0, 9)", x.line(0, 9), 1081);
        Due.is("told(1)", x.told(1), 0);
    }

    private static void shrunk() {
        TypeRoom x = Bench.stocked(1);
        writeWords(x, 0, 1, 1, 1, 1, 11);
        Due.is("set(0, 0, 11)", x.set(0, 0, 11), 2);
        added(x, 0, -1, -1, 0);
        Due.is("line(0, 4)", x.line(0, 4), 11);
        Due.is("line(0, 6)", x.line(0, 6), 0);
        Due.is("line(0, 9)", x.line(0, 9), 4);
        x.drop(0);
        x.spacing(0, 3, 2, 2, 1);
        writeWords(x, 0, 1, 1, 1, 1, 8);
        Due.is("set(0, 0, 8)", x.set(0, 0, 8), 2);
        added(x, 0, -2, -2, -1);
        Due.is("line(0, 4)", x.line(0, 4), 8);
        Due.is("line(0, 9)", x.line(0, 9), 25);
    }

    private static void tight() {
        TypeRoom x = Bench.stocked(1);
        Bench.write(x, 0, 0, 61, 32);
        Due.is("set(0, 0, 2)", x.set(0, 0, 2), 1);
        added(x, 0, 0, -1);
        Due.is("line(0, 4)", x.line(0, 4), 3);
        Due.is("line(0, 6)", x.line(0, 6), 2);
        Due.is("line(0, 9)", x.line(0, 9), 10000002);
        Due.is("set(0, 0, 3)", x.set(0, 0, 3), 1);
        Due.is("line(1, 6): all that may be shrunk", x.line(1, 6), 0);
        added(x, 1, 0, -1);
        Due.is("line(1, 9)", x.line(1, 9), 1);
    }

    private static void notJustified() {
        TypeRoom x = Bench.stocked(1);
        writeWords(x, 0, 2, 3, 5);
        Due.is("set(0, 0, 5)", x.set(0, 0, 5), 3);
        Due.is("status(): a zero is counted alone", x.status(), 0);
        Due.is("told(1)", x.told(1), 2);
        Due.is("line(0, 6)", x.line(0, 6), 3);
        Due.is("line(0, 9)", x.line(0, 9), 1009);
        Due.is("line(0, 4)", x.line(0, 4), 2);
        Due.is("line(1, 6)", x.line(1, 6), 3);
        Due.is("line(2, 6)", x.line(2, 6), 0);
        x.undo();
        Due.is("told(1): faults are not undone", x.told(1), 2);
        writeWords(x, 0, 2, 3, 3);
        Due.is("set(0, 0, 3)", x.set(0, 0, 3), 3);
        Due.is("line(1, 6): u is 0", x.line(1, 6), 0);
        Due.is("told(1)", x.told(1), 3);
    }

    private static void lastLines() {
        TypeRoom x = Bench.stocked(1);
        writeWords(x, 0, 1, 1);
        x.set(0, 0, 9);
        added(x, 0, 0);
        Due.is("line(0, 6): nothing is added to a last line", x.line(0, 6), 0);
        Due.is("line(0, 9)", x.line(0, 9), 0);
        x.spacing(0, 3, 2, 3, 1);
        x.drop(0);
        x.spacing(0, 3, 2, 3, 1);
        x.set(0, 0, 3);
        Due.is("told(4)", x.told(4), 1);
        added(x, 0, -2);
        Due.is("line(0, 9): u below 0 of a last line", x.line(0, 9), 4);
        Due.is("line(0, 4)", x.line(0, 4), 3);
    }

    private static void hyphens() {
        TypeRoom x = Bench.stocked(3);
        x.width(0, 0, 2);
        Bench.write(x, 0, 1, 1, 45, 2, 2, 2, 2);
        Due.is("set(0, 0, 9): no break", x.set(0, 0, 9), 1);
        Due.is("line(0, 3): the hyphen is no sort", x.line(0, 3), 6);
        Due.is("line(0, 7)", x.line(0, 7), 0);
        Due.is("set(0, 0, 4): a break", x.set(0, 0, 4), 2);
        Due.is("line(1, 3)", x.line(1, 3), 3);
        Due.is("line(1, 4)", x.line(1, 4), 4);
        Due.is("line(1, 7)", x.line(1, 7), 1);
        Due.is("line(1, 9)", x.line(1, 9), 50);
        Due.is("sortOf(1, 2, 0)", x.sortOf(1, 2, 0), 0);
        Due.is("sortOf(1, 2, 1)", x.sortOf(1, 2, 1), 0);
        Due.is("line(2, 3)", x.line(2, 3), 4);
        Due.is("line(2, 7)", x.line(2, 7), 0);
        Due.is("left(0, 0, 0)", x.left(0, 0, 0), 59);
    }

    private static void hyphenAtTheEnd() {
        TypeRoom x = Bench.stocked(2);
        Bench.write(x, 0, 1, 45);
        Due.is("set(0, 0, 9)", x.set(0, 0, 9), 1);
        Due.is("line(0, 3): no break is behind the last sign", x.line(0, 3), 1);
        Due.is("line(0, 7)", x.line(0, 7), 0);
    }

    private static void kerns() {
        TypeRoom x = Bench.stocked(4);
        x.join(0, 1, 2, -1, 5);
        x.join(0, 3, 1, 2, 5);
        x.buy(0, 1, 0, 9);
        x.buy(0, 1, 1, 9);
        x.kernRow(0, 2, 2);
        x.kern(0, 2, 0, -1);
        x.kern(0, 2, 1, 2);
        x.kernRow(0, 0, 4);
        x.kern(0, 0, 3, 4);
        x.kern(0, 0, 1, 7);
        widthOf(x, 5 + 1 - 1, 1, 2, 0);
        widthOf(x, 5 + 5 + 2, 3, 1, 2, 1, 2);
        widthOf(x, 1 + 5 + 4, 0, 3, 1, 2);
        widthOf(x, 1 + 1, 2, 3);
        widthOf(x, 1 + 1 + 7, 0, 45, 64, 65, 1);
        widthOf(x, 1 + 3 + 1, 0, 32, 1);
        widthOf(x, 1 + 0 + 1, 0, 61, 1);
        widthOf(x, 1 + 2 + 1, 0, 96, 1);
        widthOf(x, 1 + 1 + 1, 0, 94, 1, 1, 1);
        Bench.write(x, 0, 2, 45, 1);
        Due.is("set(0, 0, 1)", x.set(0, 0, 1), 2);
        Due.is("line(0, 4): with the kern of the letter and the hyphen", x.line(0, 4), 1);
        Due.is("line(0, 7)", x.line(0, 7), 1);
        Due.is("line(1, 4): no kern over a break", x.line(1, 4), 1);
    }

    private static void widthOf(TypeRoom x, int due, int... signs) {
        Bench.write(x, 0, signs);
        x.set(0, 0, 300);
        Due.is("width of " + java.util.Arrays.toString(signs), x.line(0, 4), due);
        x.drop(0);
    }

    private static void spacesAtBreaks() {
        TypeRoom x = Bench.stocked(1);
        Bench.write(x, 0, 0, 32, 32, 0, 32);
        Due.is("set(0, 0, 4)", x.set(0, 0, 4), 2);
        Due.is("line(0, 3): of two spaces the second one is not set", x.line(0, 3), 2);
        Due.is("line(1, 3): a space behind which is no break is set", x.line(1, 3), 2);
        Due.is("line(1, 4)", x.line(1, 4), 4);
        Bench.write(x, 0, 32, 0);
        Due.is("set(0, 0, 1)", x.set(0, 0, 1), 2);
        Due.is("line(2, 3): a line without sorts", x.line(2, 3), 0);
        Due.is("line(2, 6)", x.line(2, 6), 3);
        Due.is("line(2, 9)", x.line(2, 9), 1001);
    }

    private static void tiesGoToTheEarlierBreak() {
        TypeRoom x = Bench.stocked(1);
        writeWords(x, 0, 1, 1, 1, 9);
        Due.is("set(0, 0, 9)", x.set(0, 0, 9), 2);
        Due.is("line(0, 3)", x.line(0, 3), 5);
        writeWords(x, 0, 2, 2, 2);
        x.drop(0);
        Due.is("set(0, 0, 7): all fits", x.set(0, 0, 7), 2);
        Due.is("line(0, 3): 0 with 1 break ahead of one with the later", x.line(0, 3), 3 + 2);
        Bench.write(x, 0, 32, 0);
        x.drop(0);
        Due.is("set(0, 0, 0)", x.set(0, 0, 0), 2);
        Due.is("line(0, 9): nothing fits nothing", x.line(0, 9), 0);
        Bench.write(x, 0, 45, 45, 45, 0);
        x.drop(0);
        Due.is("set(0, 0, 1): three hyphens are worse than none", x.set(0, 0, 1), 1);
        x.drop(0);
        Bench.write(x, 0, 32, 32, 64, 64);
        x.spacing(0, 3, 2, 3, 1);
        Due.is("set(0, 0, 3)", x.set(0, 0, 3), 2);
        Due.is("line(0, 3)", x.line(0, 3), 1);
    }

    private static void emptyGivesBack() {
        TypeRoom x = new TypeRoom();
        x.fount(0, 2);
        x.buy(0, 0, 0, 3);
        x.buy(0, 0, 1, 1);
        x.buy(0, 2, 0, 9);
        x.take(0, 0, 0, 0);
        Bench.write(x, 0, 0, 0, 32, 1, 1);
        Due.is("set(0, 0, 20)", x.set(0, 0, 20), Bench.EMPTY);
        Due.is("told(1)", x.told(1), 1);
        Due.is("told(3)", x.told(3), 1);
        Due.is("told(4)", x.told(4), 0);
        Due.is("left(0, 0, 0)", x.left(0, 0, 0), 2);
        Due.is("undo() of what was kept ahead of take()", x.undo(), 1);
        Due.is("left(0, 0, 0)", x.left(0, 0, 0), 3);
        Bench.write(x, 0, 0, 0, 32, 1, 0);
        Due.is("set(0, 0, 2)", x.set(0, 0, 2), 2);
        Due.is("left(0, 2, 0)", x.left(0, 2, 0), 9);
        Due.is("left(0, 0, 0)", x.left(0, 0, 0), 0);
        Due.is("zeros of an empty one are not counted", x.told(1), 1);
    }

    private static void emptyForHyphenAndStack() {
        TypeRoom x = new TypeRoom();
        x.fount(0, 3);
        x.buy(0, 0, 1, 2);
        x.buy(0, 0, 2, 1);
        Bench.write(x, 0, 1, 45, 1);
        Due.is("set(0, 0, 9): no letter 0 is needed", x.set(0, 0, 9), 1);
        x.drop(0);
        Due.is("set(0, 0, 1): of two that are as bad the one with a break, and no letter 0", x.set(0, 0, 1), Bench.EMPTY);
        Bench.write(x, 0, 1, 45, 1, 32);
        Due.is("set(0, 0, 2)", x.set(0, 0, 2), Bench.EMPTY);
        Bench.write(x, 0, 94, 1, 2);
        Due.is("a stack", x.set(0, 0, 2), 1);
        x.drop(0);
        Bench.write(x, 0, 94, 2, 2);
        Due.is("a stack of more than there are", x.set(0, 0, 2), Bench.EMPTY);
        Bench.write(x, 0, 61);
        Due.is("a rule", x.set(0, 0, 2), Bench.EMPTY);
        Bench.write(x, 0, 98);
        Due.is("an ornament", x.set(0, 0, 2), Bench.EMPTY);
        Due.is("told(3)", x.told(3), 0);
    }

    private static void fullGalley() {
        TypeRoom x = Bench.stocked(1);
        for (int i = 0; i < 4; i++) {
            x.buy(0, 0, 0, 30);
        }
        x.text(0, 1);
        for (int i = 0; i < 49; i++) {
            x.set(0, 0, 1);
        }
        int[] signs = new int[40];
        java.util.Arrays.fill(signs, Bench.SPACE);
        signs[39] = 0;
        Bench.write(x, 1, signs);
        Due.is("40 lines more", x.set(1, 0, 1), 40);
        Due.is("told(4)", x.told(4), 89);
        Due.is("told(1)", x.told(1), 39);
        Due.is("line(88, 8)", x.line(88, 8), 1);
        Due.is("line(89, 8)", x.line(89, 8), Bench.BAD);
        Due.is("set(0, 0, 1)", x.set(0, 0, 1), Bench.FULL);
        Due.is("set(5, 0, 1): FULL ahead of NULL", x.set(5, 0, 1), Bench.FULL);
        Due.is("makeup(60)", x.makeup(60), 2);
        Due.is("makeup(1)", x.makeup(1), 89);
        Due.is("drop(50)", x.drop(50), 1);
        Due.is("set(0, 0, 1) with 50 lines", x.set(0, 0, 1), Bench.FULL);
        Due.is("drop(49)", x.drop(49), 0);
        Due.is("set(0, 0, 1) with 49 lines", x.set(0, 0, 1), 1);
    }

    private static void drop() {
        TypeRoom x = Bench.stocked(2);
        Due.is("drop(0) of none", x.drop(0), Bench.BAD);
        writeWords(x, 0, 2, 3, 4);
        x.set(0, 0, 4);
        x.makeup(5);
        Due.is("drop(-1)", x.drop(-1), Bench.BAD);
        Due.is("drop(3)", x.drop(3), Bench.BAD);
        Due.is("told(5)", x.told(5), 1);
        Due.is("drop(1)", x.drop(1), 7);
        Due.is("told(4)", x.told(4), 1);
        Due.is("told(5)", x.told(5), 0);
        Due.is("left(0, 0, 0)", x.left(0, 0, 0), 58);
        Due.is("undo()", x.undo(), 1);
        Due.is("told(4)", x.told(4), 3);
        Due.is("told(5)", x.told(5), 1);
        Due.is("left(0, 0, 0)", x.left(0, 0, 0), 51);
        Due.is("line(2, 3)", x.line(2, 3), 4);
        Due.is("drop(0)", x.drop(0), 9);
        Due.is("told(3)", x.told(3), 0);
        x.text(1, 0);
        x.set(1, 0, 4);
        Due.is("drop(0) of a line without sorts", x.drop(0), 0);
    }

    private static void dropOfStacks() {
        TypeRoom x = Bench.stocked(2);
        Bench.write(x, 0, 94, 0, 1, 32, 0);
        x.set(0, 0, 9);
        Due.is("line(0, 3): a stack is one sort of a line", x.line(0, 3), 3);
        Due.is("told(3)", x.told(3), 4);
        Due.is("drop(0): and two that go back", x.drop(0), 4);
        Due.is("left(0, 0, 0)", x.left(0, 0, 0), 60);
        Due.is("left(0, 0, 1)", x.left(0, 0, 1), 60);
        Due.is("told(3)", x.told(3), 0);
    }

    private static void line() {
        TypeRoom x = Bench.stocked(1);
        x.fount(3, 1);
        Bench.stock(x, 3, 1, 20);
        writeWords(x, 7, 2, 2);
        x.set(7, 3, 2);
        x.text(0, -2);
        Due.is("line(-1, 0)", x.line(-1, 0), Bench.BAD);
        Due.is("line(2, 0)", x.line(2, 0), Bench.BAD);
        Due.is("line(0, -1)", x.line(0, -1), Bench.BAD);
        Due.is("line(0, 10)", x.line(0, 10), Bench.BAD);
        Due.is("status() is not changed by line()", x.status(), Bench.SIZE);
        int[][] due = {{7, 3, 0, 2, 2, 2, 0, 0, 0, 0}, {7, 3, 1, 2, 2, 2, 0, 0, 1, 0}};
        for (int l = 0; l < 2; l++) {
            for (int what = 0; what < 10; what++) {
                Due.is("line(" + l + ", " + what + ")", x.line(l, what), due[l][what]);
            }
        }
        x.drop(1);
        Due.is("line(0, 8): as it was set", x.line(0, 8), 0);
        x.text(7, -1);
        Due.is("line(0, 3): the paragraph may go", x.line(0, 3), 2);
    }

    private static void sortOf() {
        TypeRoom x = Bench.stocked(2);
        Bench.write(x, 0, 1, 98, 61);
        x.set(0, 0, 9);
        x.text(0, -2);
        Due.is("sortOf(-1, 0, 0)", x.sortOf(-1, 0, 0), Bench.BAD);
        Due.is("sortOf(1, 0, 0)", x.sortOf(1, 0, 0), Bench.BAD);
        Due.is("sortOf(0, -1, 0)", x.sortOf(0, -1, 0), Bench.BAD);
        Due.is("sortOf(0, 3, 0)", x.sortOf(0, 3, 0), Bench.BAD);
        Due.is("sortOf(0, 0, -1)", x.sortOf(0, 0, -1), Bench.BAD);
        Due.is("sortOf(0, 0, 3)", x.sortOf(0, 0, 3), Bench.BAD);
        Due.is("status() is not changed by sortOf()", x.status(), Bench.SIZE);
        Due.is("sortOf(0, 1, 0)", x.sortOf(0, 1, 0), 4);
        Due.is("sortOf(0, 1, 1)", x.sortOf(0, 1, 1), 2);
        Due.is("sortOf(0, 1, 2)", x.sortOf(0, 1, 2), 0);
        Due.is("sortOf(0, 0, 1)", x.sortOf(0, 0, 1), 1);
    }
}
