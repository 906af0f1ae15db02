/** What can be seen of the room at hand, as a text that two moments can be compared by. */
final class View {
    private View() {
    }

    /** With the STICK, which is seen by asks: these change status(), THE TRACE and, at holes, FAULTS. */
    static String of(TypeRoom x) {
        StringBuilder text = new StringBuilder(silent(x));
        stick(x, text);
        return text.toString();
    }

    /** Without the STICK: no call that changes status(), FAULTS or THE TRACE. */
    static String silent(TypeRoom x) {
        StringBuilder text = new StringBuilder();
        for (int what = 2; what < 7; what++) {
            text.append(x.told(what)).append(' ');
        }
        boxes(x, text);
        lines(x, text);
        pages(x, text);
        for (int i = 0; i < x.told(6); i++) {
            text.append(" forme ").append(x.forme(i));
        }
        return text.toString();
    }

    private static void boxes(TypeRoom x, StringBuilder text) {
        for (int f = 0; f < 4; f++) {
            if (x.left(f, 2, 0) == Bench.NONE) {
                continue;
            }
            for (int kind = 0; kind < 5; kind++) {
                boolean isOneBox = kind == 2 || kind == 3;
                for (int code = 0; code < 24; code++) {
                    int left = x.left(f, kind, code);
                    text.append(left).append(',');
                    if (isOneBox || left == Bench.NONE) {
                        break;
                    }
                }
            }
        }
    }

    private static void lines(TypeRoom x, StringBuilder text) {
        for (int l = 0; l < x.told(4); l++) {
            text.append(" line");
            for (int what = 0; what < 10; what++) {
                text.append(' ').append(x.line(l, what));
            }
            for (int k = 0; k < x.line(l, 3); k++) {
                text.append(" (").append(x.sortOf(l, k, 0)).append(' ').append(x.sortOf(l, k, 1));
                text.append(' ').append(x.sortOf(l, k, 2)).append(')');
            }
        }
    }

    private static void pages(TypeRoom x, StringBuilder text) {
        for (int k = 0; k < x.told(5); k++) {
            text.append(" page");
            for (int what = 0; what < 5; what++) {
                text.append(' ').append(x.page(k, what));
            }
            for (int i = 0; i < x.page(k, 4); i++) {
                text.append(" n").append(x.noteOf(k, i));
            }
        }
    }

    private static void stick(TypeRoom x, StringBuilder text) {
        for (int i = 0; i < 10; i++) {
            text.append(" stick");
            for (int what = 0; what < 7; what++) {
                text.append(' ').append(x.ask(i, what));
            }
        }
    }
}
