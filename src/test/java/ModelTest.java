import java.util.Random;

/** Many programs made by chance from a fixed seed: the program answers as the model does, and runs stay within what is known. */
public final class ModelTest {
    private static final Checks checks = new Checks();
    private static final int[] TIMES_RUN = new int[30];
    private static final int[] FOUND = new int[7];

    public static void main(String[] args) {
        Model before = new Model();
        for (int seed = 0; seed < 12000; seed++) {
            Random chance = new Random(seed);
            Model m = new Model();
            makeProgram(m, chance);
            m.verify();
            FOUND[m.wrongs.isEmpty() ? 0 : m.wrongs.firstEntry().getValue()]++;
            compareWhatIsFound(seed, m, before);
            PacketFilter x = loaded(m, before);
            for (int k = 0; k < 4; k++) compareRun(seed, x, m, chance);
            before = m;
        }
        // The chance must have made all that is to be compared.
        for (int op = 0; op < 30; op++) checks.due("instruction " + op + " was run", TIMES_RUN[op] > 300, true);
        for (int k = 0; k < 7; k++) checks.due("verify answered " + k, FOUND[k] > 10, true);
        checks.end();
    }

    private static void makeProgram(Model m, Random chance) {
        int length = 3 + chance.nextInt(30);
        boolean careful = chance.nextInt(10) != 0;
        int idioms = chance.nextInt(7);
        // Register 0 is a number from the start and END is in a slot, so that more ways can go on and exit.
        m.code(0, 0, 0, 5, 0);
        if (chance.nextBoolean()) m.code(16, 2, 0, 3, 0);
        m.verify();
        // Most instructions that are WRONG at once are left away again, so that many programs can be run.
        for (int tries = 0; tries < 200 && m.program.size() < length; tries++) {
            int[][] several = chance.nextInt(10) < idioms ? idiom(chance, m) : new int[][] {instruction(chance, m)};
            for (int[] c : several) append(m, c, careful && chance.nextInt(200) != 0);
            for (int k = 0; k < 6 && several.length > 1; k++) append(m, touch(chance, m), careful);
        }
        // What often is WRONG only by a byte.
        if (chance.nextInt(3) == 0) append(m, touch(chance, m), false);
        if (chance.nextInt(15) != 0) while (m.code(29, 0, 0, 0, 0) >= 0) continue;
    }

    /** An object with this program, verified, which another program was in before. */
    private static PacketFilter loaded(Model m, Model before) {
        PacketFilter x = new PacketFilter();
        append(x, before);
        x.verify();
        x.wipe();
        append(x, m);
        checks.due("verify", x.verify(), m.wrongs.isEmpty() ? 0 : m.wrongs.firstEntry().getValue());
        return x;
    }

    private static void append(PacketFilter x, Model m) {
        for (Model.Instruction i : m.program) checks.due("code", x.code(i.op(), i.d(), i.s(), i.n(), i.to()) >= 0, true);
    }

    /** Appends an instruction; where the model takes care, one that is WRONG on some way is left away again. */
    private static void append(Model m, int[] c, boolean careful) {
        if (m.code(c[0], c[1], c[2], c[3], c[4]) < 0) return;
        m.verify();
        if (careful && m.wrongs.containsKey(m.program.size() - 1)) {
            m.program.remove(m.program.size() - 1);
            m.verify();
        }
    }

    /** A place is moved and asked whether the packet goes that far, or an entry is looked for. */
    private static int[][] idiom(Random chance, Model m) {
        int at = m.program.size(), place = registerOf(m, 2, chance), end = registerOf(m, 3, chance), number = registerOf(m, 1, chance);
        int other = chance.nextInt(6), few = chance.nextInt(12);
        switch (chance.nextInt(4)) {
            case 0: return new int[][] {{1, other, place, 0, 0}, {2, other, -1, few, 0}, {26, other, end, 0, 31}};
            case 1: return new int[][] {{7, number, -1, 14, 0}, {2, place, number, 0, 0}, {1, other, place, 0, 0}, {2, other, -1, few, 0},
                {25, other, end, 0, at + 6}, {21, 0, 0, 0, 31}};
            case 2: return new int[][] {{17, end, 0, 3, 0}, {25, end, place, 0, 31}};
            default: return new int[][] {{0, 1, 0, few, 0}, {18, 0, 0, 0, 0}, {16, 0, 0, 1, 0}, {22, 0, -1, 0, 31}, {1, 4, 0, 0, 0}, {0, 0, 0, 6, 0}};
        }
    }

    private static int[] touch(Random chance, Model m) {
        int place = registerOf(m, 2 + chance.nextInt(4), chance), number = registerOf(m, 1, chance), n = chance.nextInt(10);
        switch (chance.nextInt(3)) {
            case 0: return new int[] {12 + chance.nextInt(2), 0, place, n, 0};
            case 1: return new int[] {14 + chance.nextInt(2), place, number, n, 0};
            default: return new int[] {2 + chance.nextInt(2), place, -1, 3990 + n * 3, 0};
        }
    }

    private static int number(Random chance) {
        int[] some = {0, 1, 2, 3, 4, 7, 8, 15, 16, 17, 255, 256, 4000, 32768, 65528, 65535};
        return chance.nextInt(3) == 0 ? chance.nextInt(65536) : some[chance.nextInt(some.length)];
    }

    /** Any instruction at all, or one that goes with what the registers hold. */
    private static int[] instruction(Random chance, Model m) {
        int at = m.program.size();
        int to = chance.nextInt(4) == 0 ? at + 1 + chance.nextInt(5) : 31 - chance.nextInt(3);
        int n = number(chance), few = chance.nextInt(9), slot = chance.nextInt(4), any = chance.nextInt(6);
        int place = chance.nextBoolean() ? registerOf(m, 2, chance) : registerOf(m, 4, chance);
        int end = registerOf(m, 3, chance), perhaps = registerOf(m, 5, chance), number = registerOf(m, 1, chance);
        int order = 24 + chance.nextInt(4);
        switch (chance.nextInt(24)) {
            case 0: case 1: return new int[] {chance.nextInt(30), any, chance.nextInt(7) - 1, chance.nextBoolean() ? n : few, to};
            case 2: return new int[] {0, any, 0, n, 0};
            case 3: case 4: return new int[] {2 + chance.nextInt(10), number, registerOf(m, 1, chance), 0, 0};
            case 5: case 6: return new int[] {2 + chance.nextInt(10), number, -1, n, 0};
            case 7: return new int[] {22 + chance.nextInt(7), number, registerOf(m, 1, chance), 0, to};
            case 8: return new int[] {22 + chance.nextInt(7), number, -1, n, to};
            case 9: return new int[] {1, any, place, 0, 0};
            case 10: return new int[] {2 + chance.nextInt(2), place, -1, few, 0};
            case 11: return new int[] {2, place, number, 0, 0};
            case 12: case 13: return new int[] {order, registerOf(m, 2, chance), end, 0, to};
            case 14: return new int[] {order, end, registerOf(m, 2, chance), 0, to};
            case 15: case 16: return new int[] {12 + chance.nextInt(2), any, place, few, 0};
            case 17: case 18: return new int[] {14 + chance.nextInt(2), place, number, few, 0};
            case 19: return new int[] {16, chance.nextBoolean() ? place : any, 0, slot, 0};
            case 20: return new int[] {17, any, 0, slot, 0};
            case 21: return new int[] {0, 1, 0, few, 0};
            case 22: return new int[] {18 + chance.nextInt(3), 0, 0, 0, 0};
            default: return new int[] {22 + chance.nextInt(2), perhaps, -1, 0, to};
        }
    }

    /** A register that holds this kind on some way behind the last instruction, or any one if there is none. */
    private static int registerOf(Model m, int kind, Random chance) {
        int any = chance.nextInt(6);
        if (m.came.isEmpty()) return any;
        java.util.List<Model.Known[]> ways = m.came.get(m.program.size());
        for (int k = 0; k < 6 && !ways.isEmpty(); k++) {
            int r = (any + k) % 6;
            if (ways.get(0)[r].kind() == kind) return r;
        }
        return any;
    }

    private static void compareWhatIsFound(int seed, Model m, Model before) {
        PacketFilter x = null;
        for (int i = -1; i <= 32; i++) {
            // An object is used for 512 calls at most.
            if ((i + 1) % 5 == 0) x = loaded(m, before);
            checks.due(seed + " place", x.place(), m.place());
            checks.due(seed + " decided " + i, x.decided(i), m.decided(i));
            for (int r = -1; r <= 10; r++) {
                for (int what = -1; what <= 4; what++) {
                    checks.due(seed + " bound " + i + " " + r + " " + what, x.bound(i, r, what), m.bound(i, r, what));
                }
            }
        }
    }

    private static void compareRun(int seed, PacketFilter x, Model m, Random chance) {
        x.cut();
        m.cut();
        int length = chance.nextInt(17);
        for (int k = 0; k < length; k++) {
            int v = chance.nextInt(3) == 0 ? chance.nextInt(9) : chance.nextInt(256);
            x.put(v);
            m.put(v);
        }
        for (int k = 0; k < 4; k++) changeEntry(x, m, chance);
        checks.due(seed + " run", x.run(), m.run());
        checks.due(seed + " ran 0", x.ran(0), m.ran(0));
        checks.due(seed + " ran 1", x.ran(1), m.ran(1));
        checks.due(seed + " touched what is not there", m.touchedNothing, false);
        for (int k = 0; k < 17; k++) checks.due(seed + " packet " + k, x.packet(k), m.packet(k));
        for (int k = 0; k < 64; k++) checks.due(seed + " entry", x.entry(k / 8, k % 8), m.entry(k / 8, k % 8));
        if (m.wrongs.isEmpty()) staysWithin(seed, m);
    }

    private static void changeEntry(PacketFilter x, Model m, Random chance) {
        int e = chance.nextInt(8), k = chance.nextInt(8), v = chance.nextInt(512);
        if (chance.nextInt(4) == 0) {
            x.drop(e);
            m.drop(e);
        } else {
            x.enter(e, k, v);
            m.enter(e, k, v);
        }
    }

    /** At each instruction that was run some way comes, and each number is among those that are known to be possible. */
    private static void staysWithin(int seed, Model m) {
        TIMES_RUN[29]++;
        for (int t = 0; t < m.trace.size(); t++) {
            int at = m.traceAt.get(t);
            TIMES_RUN[m.program.get(at).op()]++;
            for (int r = 0; r < 10; r++) {
                if (m.bound(at, r, 0) != 1) continue;
                Model.Range range = new Model.Range(m.bound(at, r, 1), m.bound(at, r, 2), m.bound(at, r, 3));
                boolean within = m.trace.get(t)[r] instanceof Integer v && range.has(v);
                checks.due(seed + " within " + at + " " + r, within, true);
            }
            int next = t + 1 < m.trace.size() ? m.traceAt.get(t + 1) : m.ranLast;
            if (m.program.get(at).condition() && next != at + 1) checks.due(seed + " jumped", (m.decided(at) & 1) != 0, true);
        }
    }
}
