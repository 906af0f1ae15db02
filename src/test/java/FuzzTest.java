import java.util.Random;

/** Runs of chance calls: none throws, a refused one changes nothing, no SORT is lost, undo() gives all back. */
final class FuzzTest {
    private static final int RUNS = 300, CALLS = 512;
    private static final String ACTS = " take putBack stack added tray lay pick set drop makeup lock distribute ";
    private static final String[] NAMES = {
        "room", "fount", "width", "kernRow", "kern", "join", "ornament", "spacing", "buy", "text", "sign", "note",
        "take", "putBack", "stack", "ask", "added", "tray", "lay", "pick", "set", "drop", "makeup", "lock", "print",
        "distribute", "undo",
    };

    private final Random random;
    private final TypeRoom x = new TypeRoom();
    private String before = "";
    private final String[] kept = new String[2];

    private FuzzTest(int seed) {
        random = new Random(seed);
    }

    public static void main(String[] args) {
        for (int run = 0; run < RUNS && !Due.hasWrong(); run++) {
            new FuzzTest(run).go("seed " + run);
        }
        Due.end();
    }

    private void go(String name) {
        boolean isTame = random.nextInt(4) != 0;
        if (isTame) {
            x.fount(0, 4);
            Bench.stock(x, 0, 4, 40);
            x.join(0, 0, 1, -1, 3);
            x.buy(0, 1, 0, 40);
        }
        before = View.silent(x);
        for (int i = 0; i < CALLS && !Due.hasWrong(); i++) {
            step(name + ", call " + i, isTame);
        }
    }

    private void step(String at, boolean isTame) {
        String name = NAMES[random.nextInt(NAMES.length)];
        int room = x.told(0);
        int faults = x.told(1);
        boolean hadKept = x.told(9) == 1;
        long answer = call(name, isTame);
        String run = at + ": " + name;
        int status = x.status();
        boolean isRefused = status != 0;
        Due.isTrue(run + " has a status that is told", status == 0 || (status >= -3 && status <= -1)
                || (status <= -21 && status >= -27 && status != -25));
        Due.isTrue(run + " answers as its status", name.equals("print") ? !isRefused || answer == 0
                : isRefused ? answer == status : answer >= 0);
        Due.isTrue(run + " counts faults", status <= -21 ? x.told(1) == faults + 1
                : x.told(1) == faults || name.equals("set"));
        String now = View.silent(x);
        if (isRefused) {
            Due.isTrue(run + " changes nothing", now.equals(before) && (x.told(9) == 1) == hadKept);
        } else if (ACTS.contains(" " + name + " ")) {
            kept[room] = before;
            Due.is(run + ", told(9)", x.told(9), 1);
        } else if (name.equals("undo")) {
            Due.isTrue(run + " gives all back", now.equals(kept[room]));
            Due.is(run + ", told(9)", x.told(9), 0);
        }
        if (!isRefused && name.equals("room")) {
            now = View.silent(x);
        }
        Due.is(run + ", all sorts are somewhere", x.told(2), x.told(3) + lying());
        Due.isTrue(run + ", boxes are never below 0", x.told(3) >= 0 && x.told(3) <= x.told(2));
        queries();
        before = now;
    }

    private int lying() {
        int sorts = 0;
        for (int f = 0; f < 4; f++) {
            for (int code = 0; code < 24; code++) {
                sorts += Math.max(0, x.left(f, 0, code)) + Math.max(0, x.left(f, 1, code));
                sorts += Math.max(0, x.left(f, 4, code));
            }
            sorts += Math.max(0, x.left(f, 2, 0)) + Math.max(0, x.left(f, 3, 0));
        }
        return sorts;
    }

    private void queries() {
        x.line(any(90), any(11));
        x.sortOf(any(90), any(41), any(4));
        x.page(any(90), any(6));
        x.noteOf(any(90), any(13));
        x.forme(any(13));
        x.trace(any(61));
        x.told(any(11));
        x.left(any(5), any(6), any(25));
    }

    /** Mostly a number from 0 on, now and then one that is far from it. */
    private int any(int below) {
        switch (random.nextInt(40)) {
            case 0: return -1;
            case 1: return random.nextInt();
            case 2: return Integer.MIN_VALUE;
            case 3: return Integer.MAX_VALUE;
            case 4: return -1 - random.nextInt(30);
            default: return random.nextInt(below);
        }
    }

    private int sign() {
        int[] likely = {0, 1, 2, 3, 0, 1, 32, 32, 32, 45, 61, 64, 67, 96, 98, 94};
        return random.nextInt(12) == 0 ? any(130) : likely[random.nextInt(likely.length)];
    }

    private int fount(boolean isTame) {
        return isTame && random.nextInt(6) != 0 ? 0 : any(5);
    }

    private long call(String name, boolean isTame) {
        switch (name) {
            case "room": return random.nextInt(3) == 0 ? x.room(any(3)) : x.room(0);
            case "fount": return x.fount(any(4), any(26));
            case "width": return x.width(fount(isTame), any(6), any(32));
            case "kernRow": return x.kernRow(fount(isTame), any(6), any(26));
            case "kern": return x.kern(fount(isTame), any(6), any(6), any(20) - 10);
            case "join": return x.join(fount(isTame), any(5), any(5), any(6) - 1, any(62));
            case "ornament": return x.ornament(fount(isTame), any(5), any(32));
            case "spacing": return x.spacing(fount(isTame), any(10), any(10), any(4), any(4));
            case "buy": return x.buy(fount(isTame), any(5), any(6), any(60));
            case "text": return text();
            case "sign": return x.sign(any(4), any(20), sign());
            case "note": return x.note(any(13), any(10));
            default: return otherCall(name, isTame);
        }
    }

    private long text() {
        int p = random.nextInt(4);
        int n = any(41);
        int answer = x.text(p, n);
        for (int i = 0; answer == 1 && i < n; i++) {
            answer = x.sign(p, i, sign());
        }
        return answer;
    }

    private long otherCall(String name, boolean isTame) {
        switch (name) {
            case "take": return x.take(any(10), fount(isTame), any(5), any(4));
            case "putBack": return x.putBack(any(10));
            case "stack": return x.stack(any(10), any(10));
            case "ask": return x.ask(any(10), any(7));
            case "added": return x.added(any(10), any(100));
            case "tray": return x.tray(any(3), any(9));
            case "lay": return x.lay(any(10), any(8));
            case "pick": return x.pick(any(8), any(10));
            case "set": return x.set(any(4), fount(isTame), any(40));
            case "drop": return x.drop(any(12));
            case "makeup": return x.makeup(any(20));
            case "lock": return x.lock();
            case "print": return x.print(any(30));
            case "distribute": return x.distribute(any(30));
            default: return x.undo();
        }
    }
}
