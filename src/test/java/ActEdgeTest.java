/** Promises 1, 2, 33, 34 and 37, the Terms, and section 5, sentence by sentence. */
final class ActEdgeTest {
    private static final int MIN = Bench.MIN, MAX = Bench.MAX;
    /** Calls that busy() refuses or that meet a FAULT there, each with its answer. */
    private static final String[] REFUSED = {
        "room 2 = -1", "fount 4 1 = -1", "fount 0 1 = -2", "fount 2 -1 = -24",
        "width 0 0 0 = -1", "width 0 0 1 = -2", "width 2 0 1 = -21", "width 1 2 1 = -22",
        "kernRow 1 0 25 = -1", "kernRow 0 0 1 = -2", "kernRow 2 0 1 = -21", "kernRow 1 0 -2 = -24",
        "kernRow 1 2 1 = -22", "kern 1 1 0 10 = -1", "kern 0 0 0 1 = -2", "kern 2 0 0 1 = -21", "kern 1 2 0 1 = -22",
        "kern 1 0 0 1 = -21", "kern 1 1 1 1 = -22", "join 1 0 1 -1 61 = -1", "join 0 0 1 -1 1 = -2",
        "join 2 0 1 -1 1 = -21", "join 1 0 2 -1 1 = -22", "ornament 1 0 31 = -1", "ornament 0 0 1 = -2",
        "ornament 2 0 1 = -21", "ornament 1 4 1 = -22", "spacing 1 3 2 4 1 = -1", "spacing 0 3 2 1 1 = -2",
        "spacing 2 3 2 1 1 = -21", "buy 0 0 0 201 = -1", "buy 2 0 0 1 = -21", "buy 0 0 3 1 = -22",
        "text 12 1 = -1", "text 0 41 = -1", "text 0 -2 = -24", "sign 0 0 128 = -1", "sign 9 0 0 = -21",
        "sign 0 5 0 = -22", "note 2 10 = -1", "take 10 0 0 0 = -1", "take 0 0 0 0 = -2", "take 9 2 0 0 = -21",
        "take 9 0 0 3 = -22", "take 9 1 0 0 = -27", "putBack 10 = -1", "putBack 9 = -21", "stack 0 0 = -1",
        "stack 0 2 = -23", "stack 0 9 = -21", "ask 0 7 = -1", "ask 9 0 = -21", "ask 0 1 = -23", "added 2 100 = -1",
        "added 0 1 = -23", "added 9 1 = -21", "tray 3 1 = -1", "tray 0 1 = -2", "lay 10 0 = -1", "lay 0 1 = -2",
        "lay 0 3 = -22", "lay 2 0 = -26", "pick 1 10 = -1", "pick 1 0 = -2", "pick 3 9 = -22", "set 12 0 1 = -1",
        "set 9 0 1 = -21", "set 0 2 1 = -21", "set 0 0 -1 = -24", "set 1 0 1 = -22", "set 2 0 1 = -23",
        "set 0 1 1 = -27", "drop 9 = -1", "makeup 0 = -1", "distribute 9 = -1",
    };
    /** The same for ROOM 1, in which there is nothing. */
    private static final String[] REFUSED_THERE = {
        "makeup 1 = -2", "lock = -2", "undo = -2", "lay 0 0 = -21", "pick 0 0 = -21", "tray 0 -1 = -24",
        "drop 0 = -1", "distribute 1 = -1", "set 0 0 1 = -21",
    };
    private static final String[] ACTS = {
        "take 9 0 4 1", "putBack 0", "stack 1 0", "added 2 5", "lay 0 0", "pick 1 9", "set 0 0 1", "drop 0", "makeup 1",
        "lock", "distribute 1",
    };
    private static final String[] FOUNDRY = {
        "fount 3 1", "width 1 0 2", "kernRow 1 0 2", "kern 1 1 0 2", "join 1 0 1 -1 2", "ornament 1 0 3",
        "spacing 1 3 2 1 1", "buy 1 0 0 0",
    };
    /** No ACTS and nothing of FOUNTS. */
    private static final String[] OTHERS = {
        "room 0", "text 5 3", "sign 0 0 0", "note 2 0", "ask 3 2", "print 1", "line 0 0", "sortOf 0 0 0", "page 0 0",
        "noteOf 0 0", "forme 0", "status", "left 0 0 0", "trace 0", "told 0",
    };

    public static void main(String[] args) {
        newObject();
        room();
        rooms();
        firstThatFits();
        kindsOfFaults();
        changesNothing();
        threeThousandFaults();
        faultsOfBothRooms();
        oneCallMayGoBeyond();
        actsAreKept();
        notKept();
        inPlaceOfWhatWasKept();
        keptGoes();
        keptOfEachRoom();
        undo();
        status();
        silent();
        told();
        Due.end();
    }

    private static long call(TypeRoom x, String text) {
        String[] parts = text.split(" ");
        int[] a = new int[parts.length - 1];
        for (int i = 0; i < a.length; i++) {
            a[i] = Integer.parseInt(parts[i + 1]);
        }
        return Caller.call(x, parts[0], a);
    }

    private static void all(TypeRoom x, String... calls) {
        for (String call : calls) {
            Due.isTrue(call + " is done", call(x, call) >= 0);
        }
    }

    /** There is something of each: SORTS of each KIND in the STICK, one in the TRAY, a LINE, a PAGE, FORMES, a TRACE. */
    private static TypeRoom busy() {
        TypeRoom x = Bench.stocked(3);
        all(x, "kernRow 0 0 2", "kern 0 0 1 1", "join 0 1 2 -1 4", "buy 0 1 0 5", "fount 1 2", "kernRow 1 1 1");
        Bench.writeWords(x, 0, 3);
        Bench.write(x, 1, 127);
        Bench.write(x, 2, 94, 32, 0);
        Bench.write(x, 3, 0, 66);
        all(x, "note 2 5", "set 0 0 1", "makeup 2", "lock");
        all(x, "take 0 0 0 0", "take 1 0 1 0", "take 2 0 2 0", "take 3 0 3 0", "take 4 0 4 0", "take 5 0 0 2",
                "take 6 0 0 1", "stack 5 6", "tray 1 3", "take 7 0 0 1", "lay 7 1");
        all(x, "set 3 0 9", "makeup 9", "ask 3 2");
        return x;
    }

    /** All that can be seen, also what can be seen only by changing it: the object is of no more use. */
    private static String everything(TypeRoom x) {
        StringBuilder text = new StringBuilder();
        for (int what = 0; what < 10; what++) {
            text.append(what == 1 ? 0 : x.told(what)).append(' ');
        }
        for (int i = 0; i < 4; i++) {
            text.append(" trace ").append(x.trace(i));
        }
        text.append(View.of(x));
        for (int k = 0; k < 4; k++) {
            text.append(" pick ").append(x.pick(k, 9)).append(x.ask(9, 4)).append(x.putBack(9));
        }
        for (int p = 0; p < 6; p++) {
            text.append(" note ").append(x.note(p, 0)).append(" set ").append(x.set(p, 0, 300));
            text.append(' ').append(x.line(x.told(4) - 1, 3)).append(' ').append(x.line(x.told(4) - 1, 4));
        }
        for (int f = 0; f < 4; f++) {
            text.append(" fount ").append(x.fount(f, 0));
        }
        return text.append(x.undo()).append(x.told(5)).append(x.told(3)).toString();
    }

    private static void newObject() {
        Doc.says(1, "Two ROOMS without FOUNTS, paragraphs, SORTS; ROOM 0 is AT HAND.");
        Run r = new Run();
        for (int room = 0; room < 2; room++) {
            r.is(0, "status");
            r.are("told", room, 0, 0, 0, 0, 0, 0, 0, 0, 0);
            for (int f = 0; f < 4; f++) {
                r.none("left", f, 2, 0);
            }
            r.is(room, "room", 1);
        }
        for (int p = 0; p < 12; p++) {
            r.isNull("sign", p, 0, 0);
        }
        for (int i = 0; i < 10; i++) {
            r.isNull("putBack", i);
        }
        r.none("forme", 0);
        r.none("trace", 0);
    }

    private static void room() {
        Doc.says(2, "Another ROOM is AT HAND: which one was.");
        Run r = new Run();
        r.is(0, "told", 0);
        r.is(0, "room", 1);
        r.is(1, "told", 0);
        r.is(1, "room", 0);
        r.is(0, "told", 0);
        r.is(0, "room", 0);
        Doc.says(2, "BAD.");
        r.is(0, "room", 1);
        for (int room : new int[] {-1, 2, MIN, MAX}) {
            r.bad("room", room);
        }
        r.is(1, "told", 0);
    }

    private static void rooms() {
        Doc.terms("ROOMS 0, 1 each have all that follows; one is AT HAND (0 at first).");
        TypeRoom x = busy();
        String before = View.silent(x);
        all(x, "room 1", "fount 0 1", "buy 0 0 0 9", "buy 0 2 0 9", "text 0 1", "note 2 9", "take 0 0 2 0", "tray 0 1",
                "lay 0 0", "set 0 0 1", "makeup 1", "lock", "set 0 0 1", "makeup 1", "drop 0", "undo", "room 0");
        Due.isTrue("nothing of ROOM 0 is changed", View.silent(x).equals(before));
        Due.is("note(2, 5)", x.note(2, 5), 5);
        x.room(1);
        Due.is("note(2, 9)", x.note(2, 9), 9);
        Due.is("told(3)", x.told(3), 3);
    }

    private static void firstThatFits() {
        Doc.terms("Answers, the first of these that fits: BAD (a number is not as told; no such thing), STATE, FULL (as "
                + "told), then a FAULT, told by -20 less:");
        Run r = Run.stocked(1, 9);
        r.does("take", 0, 0, 0, 0);
        r.bad("width", 0, 9, 31);
        r.state("width", 0, 9, 1);
        r.bad("join", 0, 9, 9, 9, 61);
        r.state("join", 0, 9, 9, 9, 1);
        r.bad("take", 0, 0, 5, 0);
        r.state("take", 0, 1, 0, 0);
        r.bad("fount", 0, 25);
        r.state("fount", 0, -1);
        r.does("tray", 0, 1);
        r.does("lay", 0, 0);
        r.bad("tray", 3, -1);
        r.state("tray", 0, -1);
        r.does("pick", 0, 0);
        r.does("putBack", 0);
        for (int j = 0; j < 6; j++) {
            r.does("join", 0, 0, 0, -1, 1);
        }
        r.full("join", 0, 9, 9, 9, 1);
        r.does("take", 0, 0, 0, 0);
        r.state("join", 0, 9, 9, 9, 1);
    }

    private static void kindsOfFaults() {
        TypeRoom x = busy();
        Doc.terms("1 NULL (nothing is there),");
        Due.is("putBack(9)", x.putBack(9), -21);
        Doc.terms("2 INDEX,");
        Due.is("lay(0, 3)", x.lay(0, 3), -22);
        Doc.terms("3 CAST (it is of another kind),");
        Due.is("ask(0, 1)", x.ask(0, 1), -23);
        Doc.terms("4 SIZE (a length below 0),");
        Due.is("text(0, -2)", x.text(0, -2), -24);
        Doc.terms("5 ZERO,");
        int faults = x.told(1);
        Due.is("set(0, 0, 1)", x.set(0, 0, 2), 3);
        Due.is("told(1)", x.told(1), faults + 2);
        Due.is("status()", x.status(), 0);
        Doc.terms("6 STORE: the machine's;");
        Due.is("lay(2, 0)", x.lay(2, 0), -26);
        Doc.terms("7 EMPTY: a BOX has none left.");
        Due.is("take(9, 1, 0, 0)", x.take(9, 1, 0, 0), -27);
        Doc.terms("What the machine itself has against an act is caught at that act, by its kind, and told.");
        Due.is("status()", x.status(), -27);
        Due.is("told(1)", x.told(1), faults + 4);
    }

    private static void changesNothing() {
        Doc.terms("A call that answers one of these changes nothing but status(), with a FAULT how many there were.");
        String due = everything(busy());
        for (String row : REFUSED) {
            TypeRoom x = busy();
            refused(x, row);
            Due.isTrue(row + " changes nothing", everything(x).equals(due));
        }
        TypeRoom other = busy();
        other.room(1);
        due = everything(other);
        for (String row : REFUSED_THERE) {
            TypeRoom x = busy();
            x.room(1);
            refused(x, row);
            Due.isTrue(row + " changes nothing", everything(x).equals(due));
        }
        TypeRoom x = busy();
        Due.is("print(9)", x.print(9), 0);
        Due.is("status()", x.status(), Bench.BAD);
        Due.isTrue("print(9) changes nothing", everything(x).equals(everything(busy())));
    }

    private static void refused(TypeRoom x, String row) {
        String[] parts = row.split(" = ");
        int answer = Integer.parseInt(parts[1]);
        int faults = x.told(1);
        Due.is(parts[0], call(x, parts[0]), answer);
        Due.is(parts[0] + ", status()", x.status(), answer);
        Due.is(parts[0] + ", told(1)", x.told(1), faults + (answer < -20 ? 1 : 0));
    }

    private static void threeThousandFaults() {
        Doc.terms("3000 FAULTS may come ever, in both ROOMS together: calls of which one is told are FULL when as many came "
                + "already (one call may go beyond).");
        Run r = Run.stocked(1, 9);
        r.does("kernRow", 0, 0, 1);
        r.bringFaults(2999);
        r.is(2999, "told", 1);
        r.is(1, "width", 0, 0, 1);
        r.isNull("sign", 9, 0, 0);
        r.is(3000, "told", 1);
        for (String row : new String[] {"fount 1 1", "fount 1 -1", "width 0 0 1", "width 0 9 1", "kernRow 0 0 1",
            "kern 0 0 0 1", "join 0 0 0 -1 1", "ornament 0 0 1", "spacing 0 3 2 1 1", "buy 0 0 0 1", "text 0 1",
            "sign 11 0 0", "take 0 0 0 0", "putBack 0", "stack 0 1", "ask 0 0", "added 0 0", "tray 0 1", "lay 0 0",
            "pick 0 0", "set 11 0 1"}) {
            fullOf(r, row);
        }
        r.is(3000, "told", 1);
        r.bad("width", 0, 0, 31);
        r.state("fount", 0, 1);
        r.is(2, "note", 0, 1);
        r.bad("drop", 0);
        r.state("makeup", 1);
        r.state("lock");
        r.bad("print", 1);
        r.bad("distribute", 1);
        r.state("undo");
        r.is(0, "room", 1);
        r.full("text", 0, 1);
    }

    private static void fullOf(Run r, String row) {
        String[] parts = row.split(" ");
        int[] a = new int[parts.length - 1];
        for (int i = 0; i < a.length; i++) {
            a[i] = Integer.parseInt(parts[i + 1]);
        }
        r.full(parts[0], a);
    }

    private static void faultsOfBothRooms() {
        Run r = Run.stocked(1, 9);
        r.bringFaults(2996);
        r.does("room", 1);
        r.is(2996, "told", 1);
        r.isNull("sign", 9, 0, 0);
        r.isNull("sign", 9, 0, 0);
        r.is(1, "text", 9, 0);
        r.does("room", 0);
        r.isNull("sign", 9, 0, 0);
        r.is(1, "text", 9, 0);
        r.index("sign", 9, 0, 0);
        r.full("sign", 9, 0, 0);
        r.does("room", 1);
        r.full("sign", 9, 0, 0);
    }

    private static void oneCallMayGoBeyond() {
        Run r = Run.stocked(1, 9);
        r.bringFaults(2999);
        r.does("take", 0, 0, 0, 0);
        r.is(40, "set", 11, 0, 1);
        r.is(3038, "told", 1);
        r.is(0, "status");
        r.full("set", 11, 0, 1);
        r.full("putBack", 0);
        r.state("width", 0, 0, 1);
        r.is(1, "makeup", 60);
        r.is(1, "lock");
        r.is(17, "print", 1);
        r.is(0, "distribute", 1);
        r.is(1, "undo");
        r.is(1, "told", 6);
        r.is(3038, "told", 1);
    }

    private static void actsAreKept() {
        Doc.terms("ACTS are take(), putBack(), stack(), added(), tray(), lay(), pick(), set(), drop(), makeup(), lock(), "
                + "distribute(): ahead of one that is not refused and answers no FAULT all of this ROOM is kept");
        for (String act : ACTS) {
            TypeRoom x = busy();
            String before = View.of(x);
            all(x, act);
            Due.isTrue(act + " changes something", !View.of(x).equals(before));
            Due.is(act + ", told(9)", x.told(9), 1);
            Due.is(act + ", undo()", x.undo(), 1);
            Due.isTrue(act + " is undone", View.of(x).equals(before));
        }
        trayIsKept();
        for (String act : ACTS) {
            TypeRoom x = busy();
            x.undo();
            if (act.equals("lock")) {
                x.makeup(9);
            }
            all(x, act, "undo");
            Due.is(act + ", told(9)", x.told(9), 0);
        }
    }

    private static void trayIsKept() {
        Run r = Run.stocked(1, 9);
        r.is(1, "tray", 0, 2);
        r.is(1, "undo");
        r.isNull("lay", 0, 0);
        r.is(1, "tray", 1, 2);
        r.is(1, "tray", 2, 1);
        r.is(1, "undo");
        r.does("take", 1, 0, 2, 0);
        r.does("take", 0, 0, 0, 0);
        r.store("lay", 1, 1);
        r.is(1, "lay", 0, 1);
        r.is(1, "undo");
        r.is(1, "tray", 0, 1);
        r.is(0, "ask", 0, 4);
        r.does("lay", 1, 0);
        r.does("take", 2, 0, 3, 0);
        r.is(1, "undo");
        r.state("lay", 0, 0);
        r.is(1, "pick", 0, 9);
        r.is(2, "ask", 9, 4);
        r.is(1, "undo");
        r.state("tray", 0, 1);
    }

    private static void notKept() {
        Doc.terms("(its BOXES, too, but else nothing of FOUNTS; not paragraphs, NOTES, NUMBERS given, FAULTS),");
        Run r = Run.stocked(2, 9);
        r.write(0, 0);
        r.does("set", 0, 0, 1);
        r.does("makeup", 1);
        r.is(8, "left", 0, 0, 0);
        r.is(1, "lock");
        r.does("sign", 0, 0, 1);
        r.does("note", 3, 7);
        r.isNull("sign", 9, 0, 0);
        r.is(1, "undo");
        r.is(1, "told", 7);
        r.is(1, "told", 1);
        r.is(7, "note", 3, 7);
        r.is(1, "set", 0, 0, 1);
        r.is(1, "sortOf", 1, 0, 1);
        r.is(1, "undo");
        r.is(9, "left", 0, 0, 1);
        r.does("drop", 0);
        r.is(9, "left", 0, 0, 0);
        r.does("undo");
        r.is(8, "left", 0, 0, 0);
    }

    private static void inPlaceOfWhatWasKept() {
        Doc.terms("in place of what was kept.");
        Run r = Run.stocked(1, 9);
        r.does("take", 0, 0, 0, 0);
        r.does("take", 1, 0, 2, 0);
        r.is(1, "undo");
        r.is(0, "ask", 0, 4);
        r.isNull("ask", 1, 4);
        r.state("undo");
        r.does("take", 1, 0, 2, 0);
        r.state("take", 1, 0, 2, 0);
        r.isNull("putBack", 5);
        r.cast("stack", 0, 1);
        r.is(1, "undo");
        r.isNull("ask", 1, 4);
        r.is(0, "ask", 0, 4);
    }

    private static void keptGoes() {
        Doc.terms("goes when fount(), width(), kernRow(), kern(), join(), ornament(), spacing(), buy() are not refused and "
                + "answer no FAULT, and by undo().");
        for (String call : FOUNDRY) {
            TypeRoom x = busy();
            all(x, "take 9 0 0 0", call);
            Due.is(call + ", told(9)", x.told(9), 0);
            Due.is(call + ", undo()", x.undo(), Bench.STATE);
            Due.is(call + ", ask(9, 4)", x.ask(9, 4), 0);
        }
        TypeRoom x = busy();
        for (String row : REFUSED) {
            refused(x, row);
            Due.is(row + ", told(9)", x.told(9), 1);
        }
        for (String call : OTHERS) {
            all(x, call);
            Due.is(call + ", told(9)", x.told(9), 1);
        }
        Due.is("undo()", x.undo(), 1);
        Due.is("told(9)", x.told(9), 0);
        Due.is("undo()", x.undo(), Bench.STATE);
        for (String call : OTHERS) {
            all(x, call.startsWith("page") || call.startsWith("noteOf") ? "room 0" : call);
            Due.is(call + ", told(9)", x.told(9), 0);
        }
    }

    private static void keptOfEachRoom() {
        Doc.terms("What is kept (of each ROOM by itself)");
        Run r = Run.stocked(1, 9);
        r.does("take", 0, 0, 0, 0);
        r.does("room", 1);
        r.is(0, "told", 9);
        r.state("undo");
        r.stock(0, 1, 9);
        r.does("tray", 0, 1);
        r.does("room", 0);
        r.is(1, "told", 9);
        r.does("take", 1, 0, 0, 0);
        r.does("buy", 0, 0, 0, 1);
        r.is(0, "told", 9);
        r.does("room", 1);
        r.is(1, "told", 9);
        r.does("take", 0, 0, 2, 0);
        r.is(1, "undo");
        r.state("undo");
        r.is(0, "told", 3);
        r.does("room", 0);
        r.is(2, "told", 3);
        r.state("undo");
        r.does("putBack", 0);
        r.does("room", 1);
        r.does("width", 0, 0, 1);
        r.does("room", 0);
        r.is(1, "undo");
        r.is(2, "told", 3);
    }

    private static void undo() {
        Doc.says(33, "All is as it was ahead of the latest ACT: 1.");
        TypeRoom x = busy();
        String before = everything(busy());
        all(x, "take 9 0 0 0", "undo", "ask 3 2", "makeup 9", "ask 3 2");
        Due.isTrue("all is as it was", everything(x).equals(before));
        Doc.says(33, "STATE: nothing is kept.");
        Run r = Run.stocked(1, 9);
        r.state("undo");
        r.does("take", 0, 0, 0, 0);
        r.is(1, "undo");
        r.state("undo");
        r.is(0, "told", 3);
    }

    private static void status() {
        Doc.says(34, "What the latest of the calls above (but line(), sortOf(), page(), noteOf(), forme()) was refused with, "
                + "or its FAULT's answer; 0, if it was not.");
        TypeRoom x = busy();
        for (String row : REFUSED) {
            Due.is("room(0)", x.room(0), 0);
            Due.is("status()", x.status(), 0);
            refused(x, row);
        }
        for (String[] calls : new String[][] {ACTS, FOUNDRY}) {
            for (String call : calls) {
                x = busy();
                x.room(2);
                all(x, call);
                Due.is(call + ", status()", x.status(), 0);
            }
        }
        x = busy();
        for (String call : new String[] {"room 0", "text 5 3", "sign 0 0 0", "note 2 0", "ask 3 2", "print 1", "undo"}) {
            x.room(2);
            all(x, call);
            Due.is(call + ", status()", x.status(), 0);
        }
        for (String call : new String[] {"line 99 0", "line 0 0", "sortOf 0 99 0", "page 99 0", "noteOf 99 0", "forme 99"}) {
            x.room(2);
            call(x, call);
            Due.is(call + ", status()", x.status(), Bench.BAD);
            x.room(0);
            call(x, call);
            Due.is(call + ", status()", x.status(), 0);
        }
    }

    private static void silent() {
        Doc.terms("(nothing of this changes status())");
        TypeRoom x = busy();
        for (String call : new String[] {"status", "left 0 0 0", "left 9 0 0", "left 3 0 0", "trace 0", "trace 99", "told 0",
            "told 10"}) {
            x.lay(2, 0);
            call(x, call);
            Due.is(call + ", status()", x.status(), Bench.STORE);
            x.room(0);
            call(x, call);
            Due.is(call + ", status()", x.status(), 0);
        }
    }

    private static void told() {
        String[] words = {
            "How many: 0 ROOM AT HAND,", "1 FAULTS ever,", "2 SORTS that this ROOM bought,", "3 of these OUT,", "4 LINES,",
            "5 PAGES,", "6 FORMES,", "7 NUMBERS given,", "8 THE TRACE,", "9 whether something is kept.",
        };
        TypeRoom x = busy();
        x.text(0, -2);
        int[] here = {0, 1, 60 * 9 + 5, 8 + 1 + 3, 1, 1, 2, 2, 3, 1};
        int[] there = {1, 1, 0, 0, 0, 0, 0, 2, 3, 0};
        for (int what = 0; what < 10; what++) {
            Doc.says(37, words[what]);
            Due.is("told(" + what + ")", x.told(what), here[what]);
            x.room(1);
            Due.is("told(" + what + ") in ROOM 1", x.told(what), there[what]);
            x.room(0);
        }
        Doc.says(37, "BAD.");
        for (int what : new int[] {-1, 10, MIN, MAX}) {
            Due.is("told(" + what + ")", x.told(what), Bench.BAD);
        }
    }
}
