import java.util.Random;

/** Objects used for 512 calls of any kind in any order, by chance from fixed seeds: each call answers as the model's does. */
public final class CallsTest {
    private static final int MOST_CALLS = 512, METHODS = 14;
    private static final Checks checks = new Checks();
    private static final int[] GOOD = new int[METHODS], REFUSED = new int[METHODS];
    private static final String[] NAMES = {"code", "wipe", "verify", "place", "bound", "decided", "put", "cut", "packet", "enter", "drop", "entry", "run", "ran"};

    private final Random chance;
    private final int seed;
    private final PacketFilter x = new PacketFilter();
    private final Model m = new Model();
    private int calls = 0;

    private CallsTest(int seed) {
        this.seed = seed;
        chance = new Random(seed);
    }

    public static void main(String[] args) {
        for (int seed = 0; seed < 3000; seed++) new CallsTest(seed).use();
        // The chance must have made both what is answered and, where there is such a thing, what is refused.
        for (int k = 0; k < METHODS; k++) {
            boolean isNeverRefused = NAMES[k].equals("wipe") || NAMES[k].equals("verify") || NAMES[k].equals("cut");
            checks.due(NAMES[k] + " answered", GOOD[k] > 1000, true);
            checks.due(NAMES[k] + " refused", REFUSED[k] > 1000, !isNeverRefused);
        }
        checks.end();
    }

    private void use() {
        // Some objects are mostly asked for what was found, others mostly filled and run.
        int programs = 1 + chance.nextInt(6), questions = 1 + chance.nextInt(20);
        while (calls < MOST_CALLS) {
            int which = chance.nextInt(programs + questions + 20);
            if (which < programs) program();
            else if (which < programs + questions) question();
            else change();
        }
    }

    private void same(int method, String arguments, int got, int want) {
        calls++;
        checks.due("seed " + seed + ", call " + calls + ": " + NAMES[method] + "(" + arguments + ")", got, want);
        boolean isBoolean = method == 9 || method == 10;
        if (want < 0 || isBoolean && want == 0) REFUSED[method]++;
        else GOOD[method]++;
    }

    private void code(int op, int d, int s, int n, int to) {
        if (calls == MOST_CALLS) return;
        same(0, op + ", " + d + ", " + s + ", " + n + ", " + to, x.code(op, d, s, n, to), m.code(op, d, s, n, to));
    }

    private void verify() {
        if (calls < MOST_CALLS) same(2, "", x.verify(), m.verify());
    }

    /** Mostly a number from low to high, at times one beside or far from it. */
    private int from(int low, int high) {
        switch (chance.nextInt(12)) {
            case 0: return low - 1;
            case 1: return high + 1;
            case 2: return chance.nextInt();
            default: return low + chance.nextInt(high - low + 1);
        }
    }

    // ---- Programs that are well, or nearly so

    private void program() {
        if (chance.nextInt(4) != 0 && calls < MOST_CALLS) same(1, "", x.wipe(), m.wipe());
        switch (chance.nextInt(4)) {
            case 0: reckoning(); break;
            case 1: lookingAtThePacket(); break;
            case 2: lookingAtAnEntry(); break;
            default: anything();
        }
        if (chance.nextInt(3) == 0) code(from(0, 29), from(0, 5), from(-1, 5), from(0, 300), from(1, 31));
        if (chance.nextInt(8) != 0) verify();
    }

    private void reckoning() {
        code(19 + chance.nextInt(2), 0, 0, 0, 0);
        for (int k = chance.nextInt(8); k > 0; k--) code(2 + chance.nextInt(10), 0, -1, chance.nextInt(20), 0);
        code(22 + chance.nextInt(7), 0, -1, chance.nextInt(20), m.program.size() + 2);
        for (int k = chance.nextInt(3); k >= 0; k--) code(2 + chance.nextInt(10), 0, -1, chance.nextInt(65536), 0);
        code(29, 0, 0, 0, 0);
    }

    private void lookingAtThePacket() {
        int bytes = chance.nextInt(17);
        code(0, 0, 0, chance.nextInt(65536), 0);
        code(1, 4, 1, 0, 0);
        code(2, 4, -1, bytes, 0);
        code(26, 4, 2, 0, m.program.size() + 3);
        code(12 + chance.nextInt(2), 0, 1, chance.nextInt(bytes + 1), 0);
        code(14 + chance.nextInt(2), 1, 0, chance.nextInt(bytes + 1), 0);
        code(29, 0, 0, 0, 0);
    }

    private void lookingAtAnEntry() {
        code(0, 1, 0, chance.nextInt(9), 0);
        code(18, 0, 0, 0, 0);
        code(16, 0, 0, 2, 0);
        code(22, 0, -1, 0, m.program.size() + 5);
        code(17, 5, 0, 2, 0);
        code(12 + chance.nextInt(2), 0, 5, chance.nextInt(8), 0);
        code(2, 0, -1, chance.nextInt(500), 0);
        code(14 + chance.nextInt(2), 5, 0, chance.nextInt(8), 0);
        code(29, 0, 0, 0, 0);
    }

    private void anything() {
        for (int k = chance.nextInt(33); k >= 0; k--) code(from(0, 29), from(0, 5), from(-1, 5), from(0, 10), m.program.size() + from(1, 5));
    }

    // ---- All other calls

    private void question() {
        int i = from(0, 31), r = from(0, 9), what = from(0, 3);
        switch (chance.nextInt(4)) {
            case 0: same(3, "", x.place(), m.place()); break;
            case 1: same(5, "" + i, x.decided(i), m.decided(i)); break;
            default:
                i = chance.nextBoolean() ? i : from(0, 6);
                same(4, i + ", " + r + ", " + what, x.bound(i, r, what), m.bound(i, r, what));
        }
    }

    private void change() {
        int e = from(0, 7), k = from(0, 7), v = chance.nextInt(), b = from(0, 15), what = from(0, 1);
        switch (chance.nextInt(16)) {
            case 0: case 1: case 2: case 3: same(6, "" + v, x.put(v), m.put(v)); break;
            case 4: if (chance.nextInt(6) == 0) same(7, "", x.cut(), m.cut()); break;
            case 5: case 6: same(8, "" + b, x.packet(b), m.packet(b)); break;
            case 7: case 8: same(9, e + ", " + k + ", " + v, x.enter(e, k, v) ? 1 : 0, m.enter(e, k, v) ? 1 : 0); break;
            case 9: same(10, "" + e, x.drop(e) ? 1 : 0, m.drop(e) ? 1 : 0); break;
            case 10: case 11: same(11, e + ", " + k, x.entry(e, k), m.entry(e, k)); break;
            case 12: case 13: same(12, "", x.run(), m.run()); break;
            default: same(13, "" + what, x.ran(what), m.ran(what));
        }
    }
}
