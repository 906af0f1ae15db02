/** Calls of a TypeRoom by name, so that a run of calls can be made twice. */
final class Caller {
    private Caller() {
    }

    static long call(TypeRoom x, String name, int... a) {
        switch (name) {
            case "room": return x.room(a[0]);
            case "fount": return x.fount(a[0], a[1]);
            case "width": return x.width(a[0], a[1], a[2]);
            case "kernRow": return x.kernRow(a[0], a[1], a[2]);
            case "kern": return x.kern(a[0], a[1], a[2], a[3]);
            case "join": return x.join(a[0], a[1], a[2], a[3], a[4]);
            case "ornament": return x.ornament(a[0], a[1], a[2]);
            case "spacing": return x.spacing(a[0], a[1], a[2], a[3], a[4]);
            case "buy": return x.buy(a[0], a[1], a[2], a[3]);
            case "text": return x.text(a[0], a[1]);
            case "sign": return x.sign(a[0], a[1], a[2]);
            case "note": return x.note(a[0], a[1]);
            default: return callOther(x, name, a);
        }
    }

    private static long callOther(TypeRoom x, String name, int[] a) {
        switch (name) {
            case "take": return x.take(a[0], a[1], a[2], a[3]);
            case "putBack": return x.putBack(a[0]);
            case "stack": return x.stack(a[0], a[1]);
            case "ask": return x.ask(a[0], a[1]);
            case "added": return x.added(a[0], a[1]);
            case "tray": return x.tray(a[0], a[1]);
            case "lay": return x.lay(a[0], a[1]);
            case "pick": return x.pick(a[0], a[1]);
            case "set": return x.set(a[0], a[1], a[2]);
            case "drop": return x.drop(a[0]);
            case "makeup": return x.makeup(a[0]);
            case "lock": return x.lock();
            case "print": return x.print(a[0]);
            case "distribute": return x.distribute(a[0]);
            case "undo": return x.undo();
            default: return query(x, name, a);
        }
    }

    private static long query(TypeRoom x, String name, int[] a) {
        switch (name) {
            case "line": return x.line(a[0], a[1]);
            case "sortOf": return x.sortOf(a[0], a[1], a[2]);
            case "page": return x.page(a[0], a[1]);
            case "noteOf": return x.noteOf(a[0], a[1]);
            case "forme": return x.forme(a[0]);
            case "status": return x.status();
            case "left": return x.left(a[0], a[1], a[2]);
            case "trace": return x.trace(a[0]);
            case "told": return x.told(a[0]);
            default: throw new IllegalArgumentException(name);
        }
    }
}
