import java.util.Arrays;
import java.util.Random;

/** Runs of chance calls (from fixed seeds), each answer compared with that of the model. */
final class ModelTest {
    private static final int RUNS = 2400, CALLS = 512;
    private static final String[] FOUNDRY = {
        "fount", "width", "kernRow", "kern", "join", "ornament", "spacing", "buy", "buy", "left",
    };
    private static final String[] STICK = {
        "take", "take", "take", "take", "putBack", "stack", "stack", "ask", "ask", "ask", "added", "tray", "lay",
        "lay", "pick", "pick", "trace", "left",
    };
    private static final String[] TEXT = {
        "text", "sign", "sign", "note", "set", "set", "line", "sortOf", "line", "sortOf", "drop",
    };
    private static final String[] PAGES = {
        "makeup", "makeup", "page", "page", "noteOf", "lock", "forme", "print", "distribute", "note", "set",
    };
    private static final String[] HOUSE = {"room", "status", "told", "undo"};

    private final Random random;
    private final TypeRoom x = new TypeRoom();
    private final Model model = new Model();
    private final String run;
    private int letters = 0;
    private int calls = 0;

    private ModelTest(int seed) {
        random = new Random(seed);
        run = "seed " + seed;
    }

    public static void main(String[] args) {
        for (int run = 0; run < RUNS && !Due.hasWrong(); run++) {
            new ModelTest(run).go(run % 8);
        }
        Due.end();
    }

    private void go(int profile) {
        switch (profile) {
            case 0:
                break;
            case 1:
                castFount(0, 30);
                castFount(1 + random.nextInt(3), 20);
                break;
            case 2:
                castFount(0, 200);
                bringFaults();
                break;
            case 3:
                castFount(0, 200);
                giveNumbers();
                break;
            case 4:
                castFount(0, 200);
                fillGalley();
                break;
            case 5:
                buyMuch();
                break;
            default:
                castFount(0, 160);
                break;
        }
        while (calls < CALLS && !Due.hasWrong()) {
            step(profile);
        }
    }

    private long due(String name, int... a) {
        if (calls >= CALLS) {
            return 0;
        }
        calls++;
        long want = model.call(name, a);
        long got = Caller.call(x, name, a);
        Due.is(run + ", call " + calls + ": " + name + Arrays.toString(a), got, want);
        return want;
    }

    // ---- how runs begin

    private void castFount(int f, int each) {
        letters = 1 + random.nextInt(5);
        due("fount", f, letters);
        for (int j = random.nextInt(4); j > 0; j--) {
            long join = due("join", f, letter(), letter(), random.nextInt(letters + 1) - 1, 1 + random.nextInt(7));
            due("buy", f, 1, (int) join, random.nextInt(each));
        }
        for (int a = 0; a < letters; a++) {
            due("width", f, a, 1 + random.nextInt(5));
            due("buy", f, 0, a, random.nextInt(each) + each / 3);
            int n = random.nextInt(letters + 2) - 1;
            due("kernRow", f, a, n);
            for (int b = 0; b < n; b++) {
                due("kern", f, a, b, random.nextInt(6) - 3);
            }
        }
        int space = 1 + random.nextInt(4);
        due("spacing", f, space, random.nextInt(4), random.nextInt(space + 1), 1 + random.nextInt(3));
        for (int kind = 2; kind < 4; kind++) {
            due("buy", f, kind, 0, random.nextInt(each) + each / 3);
        }
        for (int k = 0; k < 4; k++) {
            due("buy", f, 4, k, random.nextInt(each));
        }
    }

    private int letter() {
        return random.nextInt(letters);
    }

    private void bringFaults() {
        due("text", 0, 40);
        for (int i = 0; i < 40; i++) {
            due("sign", 0, i, i < 39 ? 32 : 64);
        }
        for (int i = 0; i < 77; i++) {
            due("set", 0, 0, 1);
            due(random.nextBoolean() ? "undo" : "drop", 0);
        }
        for (int i = random.nextInt(5); i > 0; i--) {
            due("sign", 1, 0, 0);
        }
    }

    private void giveNumbers() {
        due("text", 0, 24);
        for (int i = 0; i < 24; i++) {
            due("sign", 0, i, i < 23 ? 32 : 64);
        }
        due("set", 0, 0, 1);
        due("drop", 11 + random.nextInt(2));
        due("makeup", 1);
        for (int i = 0; i < 36; i++) {
            due("lock");
            due("undo");
        }
    }

    private void fillGalley() {
        due("text", 0, 30);
        for (int i = 0; i < 30; i++) {
            due("sign", 0, i, random.nextInt(3) == 0 || i == 29 ? 64 + random.nextInt(12) : 32);
        }
        for (int i = 0; i < 4; i++) {
            due("set", 0, 0, 1);
            due("text", 1, 0);
            due("set", 1, 0, 1);
        }
    }

    private void buyMuch() {
        due("fount", 1, 24);
        for (int a = 0; a < 20; a++) {
            due("buy", 1, 0, a, a < 19 ? 200 : 195 + random.nextInt(5));
        }
    }

    // ---- how they go on

    private void step(int profile) {
        int dice = random.nextInt(profile == 0 ? 60 : 24);
        if (dice < 3) {
            compose();
        } else if (dice < 5) {
            paginate();
        } else if (dice < 6) {
            press();
        } else if (dice < 8) {
            fillStick();
        } else if (dice < 10) {
            fillTray();
        } else {
            single();
        }
    }

    private void single() {
        int dice = random.nextInt(20);
        String[] names = dice < 4 ? FOUNDRY : dice < 10 ? STICK : dice < 14 ? TEXT : dice < 18 ? PAGES : HOUSE;
        String name = names[random.nextInt(names.length)];
        due(name, arguments(name));
        if (random.nextInt(3) == 0) {
            due("status");
        }
        if (random.nextInt(3) == 0) {
            due("told", edge(0, 9));
        }
    }

    private void compose() {
        int p = random.nextInt(3);
        int n = random.nextInt(22);
        due("text", p, n);
        for (int i = 0; i < n; i++) {
            due("sign", p, i, sign());
        }
        int first = count(4);
        long lines = due("set", p, fount(), measure());
        for (int l = first; lines > 0 && l < first + Math.min(3, lines); l++) {
            for (int what = 3; what < 10; what++) {
                due("line", l, what);
            }
            for (int k = 0; k < 4; k++) {
                due("sortOf", l, random.nextInt(10), random.nextInt(3));
            }
        }
        due("told", 1);
        due("told", 3);
    }

    private void paginate() {
        long pages = due("makeup", random.nextInt(10) == 0 ? edge(1, 60) : 1 + random.nextInt(12));
        for (int k = 0; k < Math.min(6, pages); k++) {
            for (int what = 0; what < 5; what++) {
                due("page", k, what);
            }
            due("noteOf", k, random.nextInt(3));
        }
    }

    private void press() {
        due("lock");
        due("told", 7);
        due("print", number());
        due("told", 8);
        due("trace", edge(0, 62));
        if (random.nextInt(3) == 0) {
            due("distribute", number());
        }
        if (random.nextInt(6) == 0) {
            due("undo");
        }
    }

    private void fillStick() {
        boolean isForStack = random.nextBoolean();
        int first = place();
        int second = place();
        int kinds = isForStack ? 2 : 5;
        due("take", first, fount(), random.nextInt(kinds), random.nextInt(Math.max(3, letters)));
        due("take", second, fount(), random.nextInt(kinds), random.nextInt(Math.max(3, letters)));
        if (isForStack) {
            due("stack", first, second);
        }
        for (int what = 0; what < 7; what++) {
            due("ask", filled(), what);
            due("told", 8);
            due("trace", random.nextInt(5));
        }
    }

    private void fillTray() {
        due("tray", edge(0, 2), edge(0, 8));
        for (int i = random.nextInt(6); i > 0; i--) {
            due("lay", filled(), edge(0, 4));
            due("pick", edge(0, 4), place());
        }
        due("lay", filled(), edge(0, 4));
        due("tray", edge(0, 2), edge(0, 8));
    }

    /** Mostly a place of the STICK with a SORT. */
    private int filled() {
        for (int tries = 0; tries < 9; tries++) {
            int i = random.nextInt(10);
            if (model.hasSort(i)) {
                return i;
            }
        }
        return edge(0, 9);
    }

    private int count(int what) {
        return (int) model.call("told", what);
    }

    /** Mostly that of a FORME that is there. */
    private int number() {
        int formes = count(6);
        if (formes == 0 || random.nextInt(6) == 0) {
            return count(7) - random.nextInt(9) + 1;
        }
        return (int) model.call("forme", random.nextInt(formes));
    }

    private int sign() {
        int dice = random.nextInt(40);
        if (dice < 20) {
            return random.nextInt(Math.max(1, letters));
        }
        int[] others = {32, 32, 32, 32, 32, 32, 32, 32, 45, 45, 45, 61, 61, 64, 65, 75, 96, 99, 94};
        return dice < 39 ? others[dice - 20] : edge(0, 127);
    }

    private int fount() {
        return random.nextInt(5) != 0 ? 0 : edge(0, 3);
    }

    private int measure() {
        return random.nextInt(15) == 0 ? edge(0, 300) : random.nextInt(24);
    }

    /** Mostly a number that is as told, now and then one at or behind an edge, or far from all. */
    private int edge(int least, int most) {
        switch (random.nextInt(50)) {
            case 0: return least - 1;
            case 1: return most + 1;
            case 2: return least;
            case 3: return most;
            case 4: return random.nextInt(4) == 0 ? random.nextInt() : least - 2;
            case 5: return random.nextBoolean() ? Integer.MIN_VALUE : Integer.MAX_VALUE;
            default: return least + random.nextInt(most - least + 1);
        }
    }

    private int place() {
        return random.nextInt(8) == 0 ? edge(0, 9) : random.nextInt(5);
    }

    private int[] of(int... a) {
        return a;
    }

    private int[] arguments(String name) {
        int l = Math.max(0, letters - 1);
        switch (name) {
            case "room": return of(random.nextInt(3) == 0 ? edge(0, 1) : 0);
            case "fount": return of(edge(0, 3), edge(0, 24));
            case "width": return of(fount(), edge(0, l), edge(1, 30));
            case "kernRow": return of(fount(), edge(0, l), edge(-1, 24));
            case "kern": return of(fount(), edge(0, l), edge(0, l), edge(-9, 9));
            case "join": return of(fount(), edge(0, l), edge(0, l), edge(-1, l), edge(1, 60));
            case "ornament": return of(fount(), edge(0, 3), edge(1, 30));
            case "spacing": return of(fount(), edge(1, 9), edge(0, 9), edge(0, 2), edge(1, 3));
            case "buy": return of(fount(), edge(0, 4), edge(0, Math.max(3, l)), edge(0, 200));
            case "text": return of(edge(0, 11), edge(-1, 40));
            case "sign": return of(edge(0, 3), edge(0, 20), sign());
            case "note": return of(edge(0, 11), edge(0, 9));
            case "set": return of(random.nextInt(10) == 0 ? edge(0, 11) : random.nextInt(3), fount(), measure());
            case "makeup": return of(random.nextInt(10) == 0 ? edge(1, 60) : 1 + random.nextInt(12));
            case "left": return of(fount(), edge(0, 4), edge(0, Math.max(3, l)));
            default: return otherArguments(name);
        }
    }

    private int[] otherArguments(String name) {
        int lines = Math.max(0, count(4) - 1);
        int pages = Math.max(0, count(5) - 1);
        switch (name) {
            case "take": return of(place(), fount(), edge(0, 4), random.nextInt(Math.max(4, letters)));
            case "putBack": return of(filled());
            case "stack": return of(filled(), filled());
            case "ask": return of(filled(), edge(0, 6));
            case "added": return of(filled(), edge(0, 99));
            case "tray": return of(edge(0, 2), edge(0, 8));
            case "lay": return of(filled(), edge(0, 4));
            case "pick": return of(edge(0, 4), place());
            case "drop": return of(edge(0, lines));
            case "line": return of(edge(0, lines), edge(0, 9));
            case "sortOf": return of(edge(0, lines), edge(0, 10), edge(0, 2));
            case "page": return of(edge(0, pages), edge(0, 4));
            case "noteOf": return of(edge(0, pages), edge(0, 3));
            case "forme": return of(edge(0, 11));
            case "print": case "distribute": return of(number());
            case "trace": return of(random.nextInt(4) == 0 ? edge(0, 62) : edge(0, 5));
            case "told": return of(edge(0, 9));
            default: return of();
        }
    }
}
