import java.lang.reflect.Constructor;
import java.lang.reflect.Field;
import java.lang.reflect.Method;
import java.lang.reflect.Modifier;
import java.nio.file.Files;
import java.nio.file.Path;
import java.util.Arrays;
import java.util.Set;
import java.util.TreeSet;

/** Those sentences of the document, from its first line, that name no boundary, and the public face. The Edges tests have the others. */
public final class DocumentTest extends Ranges {
    private static final int BAD = PacketFilter.BAD;
    private static final int MOST_BYTES = 16, ENTRIES = 8, ENTRY_BYTES = 8, CELLS = 10;
    private static final int UNSET = 0, NUMBER = 1, PACKET = 2, END = 3, ENTRY = 4, PERHAPS = 5;

    public static void main(String[] args) throws Exception {
        bytesOfThePacket();
        bytesOfEntries();
        face();
        usesAsSaid();
        setAndMove();
        calculations();
        slots();
        jump();
        exit();
        calls();
        kinds();
        ranges();
        aRangeOfEach();
        originOfPerhaps();
        firstWay();
        whatIsMadeHoldsAllResults();
        constantsOfConditions();
        checks.end();
    }

    // ---- What it is

    private static int sizeOf(int op) {
        return op == Ops.LOAD || op == Ops.STORE ? 1 : 2;
    }

    private static boolean isStore(int op) {
        return op >= Ops.STORE;
    }

    /** What verify answers for a touch of n and on, where so many bytes are known to be there. */
    private static int wrongOfTouch(int op, int n, int there) {
        if (n + sizeOf(op) > there) return 4;
        return sizeOf(op) == 2 && n % 2 != 0 ? 5 : 0;
    }

    private static int[] touch(int op, int place, int number, int n) {
        return isStore(op) ? Ops.i(op, place, number, n) : Ops.i(op, number, place, n);
    }

    private static void bytesOfThePacket() {
        checks.sentence("so that no byte is ever touched that is not there");
        for (int op = Ops.LOAD; op <= Ops.STORE2; op++) {
            for (int known = 0; known <= MOST_BYTES + 1; known++) {
                for (int n = 0; n <= MOST_BYTES + 1; n++) touchesPacket(op, known, n);
            }
        }
    }

    /** Bytes n and on are touched where the packet has so many at least. */
    private static PacketFilter touchingPacket(int op, int known, int n) {
        return Ops.with(Ops.set(0, 0x1234), Ops.move(4, 1), Ops.with(Ops.ADD, 4, known), Ops.i(Ops.GT, 4, 2, 0, 5), touch(op, 1, 0, n), Ops.exit());
    }

    private static void touchesPacket(int op, int known, int n) {
        String call = "op " + op + " at " + n + " of " + known;
        int wrong = wrongOfTouch(op, n, known);
        checks.due(call, touchingPacket(op, known, n).verify(), wrong);
        for (int length = 0; length <= MOST_BYTES && wrong == 0; length++) {
            PacketFilter x = touchingPacket(op, known, n);
            x.verify();
            int[] bytes = new int[length];
            for (int k = 0; k < length; k++) bytes[k] = 100 + k;
            for (int each : bytes) x.put(each);
            int want = length < known ? 0x1234 : touched(op, bytes, n);
            checks.due(call + " in " + length, x.run(), want);
            for (int k = 0; k <= MOST_BYTES; k++) checks.due(call + " in " + length + ", byte " + k, x.packet(k), k < length ? bytes[k] : BAD);
        }
    }

    /** What register 0 holds, which was 0x1234, after bytes n and on were loaded to it, or after it was stored there. */
    private static int touched(int op, int[] bytes, int n) {
        if (isStore(op)) {
            bytes[n] = 0x34;
            if (sizeOf(op) == 2) bytes[n + 1] = 0x12;
            return 0x1234;
        }
        return sizeOf(op) == 2 ? bytes[n] + 256 * bytes[n + 1] : bytes[n];
    }

    private static void bytesOfEntries() {
        for (int op = Ops.LOAD; op <= Ops.STORE2; op++) {
            for (int n = 0; n <= ENTRY_BYTES + 1; n++) {
                for (int e = 0; e < ENTRIES; e++) touchesEntry(op, e, n);
            }
        }
    }

    private static void touchesEntry(int op, int e, int n) {
        PacketFilter x = Ops.with(Ops.set(1, e), Ops.i(Ops.FIND), Ops.move(4, 0), Ops.i(Ops.EQ, 4, -1, 0, 6), Ops.set(0, 0x1234), touch(op, 4, 0, n), Ops.exit());
        String call = "op " + op + " at " + n + " of entry " + e;
        int wrong = wrongOfTouch(op, n, ENTRY_BYTES);
        checks.due(call, x.verify(), wrong);
        if (wrong != 0) return;
        // Register 0 is NULL then, the number 0.
        checks.due(call + ", not there", x.run(), 0);
        int[][] bytes = new int[ENTRIES][ENTRY_BYTES];
        for (int k = 0; k < ENTRIES * ENTRY_BYTES; k++) {
            bytes[k / ENTRY_BYTES][k % ENTRY_BYTES] = 150 + k;
            x.enter(k / ENTRY_BYTES, k % ENTRY_BYTES, 150 + k);
        }
        for (int k = 0; k < ENTRIES * ENTRY_BYTES; k++) bytes[k / ENTRY_BYTES][k % ENTRY_BYTES] &= 255;
        x.put(99);
        int want = touched(op, bytes[e], n);
        checks.due(call, x.run(), want);
        for (int k = 0; k < ENTRIES * ENTRY_BYTES; k++) {
            checks.due(call + ", byte " + k, x.entry(k / ENTRY_BYTES, k % ENTRY_BYTES), bytes[k / ENTRY_BYTES][k % ENTRY_BYTES]);
        }
        checks.due(call + ", the packet", x.packet(0), 99);
    }

    // ---- The public face

    private static final String[] FACE = {"public final class PacketFilter", "public static final int BAD = -1, FULL = -2;", "public PacketFilter()",
        "public int code(int op, int d, int s, int n, int to)", "public int wipe()", "public int verify()", "public int place()",
        "public int bound(int i, int r, int what)", "public int decided(int i)", "public int put(int v)", "public int cut()", "public int packet(int k)",
        "public boolean enter(int entry, int k, int v)", "public boolean drop(int entry)", "public int entry(int entry, int k)", "public int run()",
        "public int ran(int what)"};

    private static void face() throws Exception {
        String source = Files.readString(Path.of("src/main/java/PacketFilter.java"));
        for (String member : FACE) {
            checks.sentence(member);
            checks.due("stands as it is", source.contains(member.endsWith(";") ? member : member + " {"), true);
        }
        checks.sentence("The public face");
        checks.due("modifiers", PacketFilter.class.getModifiers(), Modifier.PUBLIC | Modifier.FINAL);
        checks.due("superclass", PacketFilter.class.getSuperclass() == Object.class, true);
        checks.due("interfaces", PacketFilter.class.getInterfaces().length, 0);
        checks.due("classes inside", PacketFilter.class.getDeclaredClasses().length, 0);
        checks.due("constructors", PacketFilter.class.getDeclaredConstructors().length, 1);
        for (Constructor<?> each : PacketFilter.class.getDeclaredConstructors()) checks.due("" + each, "" + each, "public PacketFilter()");
        Set<String> seen = new TreeSet<>();
        for (Field each : PacketFilter.class.getDeclaredFields()) {
            if (!Modifier.isPrivate(each.getModifiers())) seen.add(each + " = " + each.getInt(null));
        }
        for (Method each : PacketFilter.class.getDeclaredMethods()) {
            if (!Modifier.isPrivate(each.getModifiers())) seen.add(each.toString().replace("PacketFilter.", ""));
        }
        Set<String> want = new TreeSet<>(Set.of("public static final int PacketFilter.BAD = -1", "public static final int PacketFilter.FULL = -2"));
        for (String member : FACE) {
            if (member.endsWith(")") && !member.contains("PacketFilter")) want.add(member.replaceAll("int [a-z]+(?=[,)])", "int").replace(", ", ","));
        }
        checks.due("members", seen.toString(), want.toString());
    }

    // ---- Promise 2

    /** Whether op uses d, s as a register, X, n with a greatest number (or -1), and to. */
    private record Uses(boolean d, boolean s, boolean x, int n, boolean to) {
        static Uses of(int op) {
            boolean condition = op >= Ops.EQ && op <= Ops.BITS;
            boolean x = condition || op >= Ops.ADD && op <= Ops.RIGHT;
            boolean touch = op >= Ops.LOAD && op <= Ops.STORE2;
            int n = op == Ops.SET ? 65535 : touch ? 255 : op == Ops.SAVE || op == Ops.BACK ? 3 : -1;
            return new Uses(op <= Ops.BACK || condition, touch || op == Ops.MOVE, x, n, condition || op == Ops.JUMP);
        }

        boolean isAsSaid(int op, int d, int s, int n, int to) {
            if (this.d && (d < 0 || d > 5) || this.s && (s < 0 || s > 5) || this.to && (to < 1 || to > 31)) return false;
            if (x && (s < -1 || s > 5 || s == -1 && (n < 0 || n > 65535))) return false;
            if (op >= Ops.EQ && op <= Ops.BITS && s == d) return false;
            return this.n < 0 || n >= 0 && n <= this.n;
        }
    }

    private static void usesAsSaid() {
        checks.sentence("BAD if op is not 0 .. 29, or what it uses is not as said");
        int[] registers = {Integer.MIN_VALUE, -2, -1, 0, 3, 5, 6, Integer.MAX_VALUE};
        int[] numbers = {Integer.MIN_VALUE, -1, 0, 3, 4, 255, 256, 65535, 65536, Integer.MAX_VALUE};
        int[] targets = {Integer.MIN_VALUE, -1, 0, 1, 31, 32, Integer.MAX_VALUE};
        for (int op = -1; op <= 30; op++) {
            for (int d : registers) for (int s : registers) for (int n : numbers) for (int to : targets) {
                boolean isAsSaid = op >= 0 && op <= 29 && Uses.of(op).isAsSaid(op, d, s, n, to);
                checks.due("code(" + op + ", " + d + ", " + s + ", " + n + ", " + to + ")", new PacketFilter().code(op, d, s, n, to), isAsSaid ? 0 : BAD);
            }
        }
    }

    // ---- Instructions

    /** What the program of x, which goes on behind its last instruction, leaves in this register. */
    private static void leavesIn(String call, PacketFilter x, int register, int want) {
        Ops.append(x, Ops.move(0, register), Ops.exit());
        checks.due(call + ", verify", x.verify(), 0);
        checks.due(call + ", register " + register, x.run(), want);
    }

    private static void setAndMove() {
        checks.sentence("0 SET d = n   1 MOVE d = s");
        for (int d = 0; d <= 5; d++) {
            for (int n : new int[] {0, 1, 255, 256, 40000, 65535}) leavesIn("SET " + d, Ops.with(Ops.set(d, n)), d, n);
            for (int s = 0; s <= 5; s++) {
                leavesIn("MOVE " + d + " " + s, Ops.with(Ops.set(d, 11), Ops.set(s, 22), Ops.move(d, s)), d, 22);
                leavesIn("MOVE " + d + " " + s, Ops.with(Ops.set(d, 11), Ops.set(s, 22), Ops.move(d, s)), s, 22);
            }
        }
    }

    private static void calculations() {
        checks.sentence("2 ADD, 3 SUB, 4 MUL, 5 DIV, 6 MOD, 7 AND, 8 OR, 9 XOR, 10 LEFT, 11 RIGHT: d = d op X");
        int[] of44003And7 = {44010, 43996, 45877, 6286, 1, 3, 44007, 44004, 61824, 343};
        int[] of7And7 = {14, 0, 49, 1, 0, 7, 7, 0, 896, 0};
        for (int op = Ops.ADD; op <= Ops.RIGHT; op++) {
            for (int d = 0; d <= 5; d++) {
                leavesIn(op + " by 7", Ops.with(Ops.set(d, 44003), Ops.with(op, d, 7)), d, of44003And7[op - Ops.ADD]);
                for (int s = 0; s <= 5; s++) {
                    PacketFilter x = Ops.with(Ops.set(d, 44003), Ops.set(s, 7), Ops.i(op, d, s));
                    leavesIn(op + " by register " + s, x, d, (s == d ? of7And7 : of44003And7)[op - Ops.ADD]);
                    x = Ops.with(Ops.set(d, 44003), Ops.set(s, 7), Ops.i(op, d, s));
                    if (s != d) leavesIn(op + " leaves X", x, s, 7);
                }
            }
        }
    }

    private static void slots() {
        checks.sentence("16 SAVE slot n = d   17 BACK d = slot n");
        for (int d = 0; d <= 5; d++) {
            for (int n = 0; n <= 3; n++) {
                for (int back = 0; back <= 5; back++) {
                    PacketFilter x = Ops.with(Ops.set(d, 33), Ops.i(Ops.SAVE, d, 0, n), Ops.set(d, 44), Ops.i(Ops.BACK, back, 0, n));
                    leavesIn("SAVE " + d + " in " + n + ", BACK to " + back, x, back, 33);
                }
                PacketFilter x = Ops.with(Ops.set(d, 33), Ops.i(Ops.SAVE, d, 0, n));
                leavesIn("SAVE leaves " + d, x, d, 33);
            }
        }
        for (int n = 0; n <= 3; n++) {
            PacketFilter x = new PacketFilter();
            for (int k = 0; k <= 3; k++) Ops.append(x, Ops.set(5, 50 + k), Ops.i(Ops.SAVE, 5, 0, k));
            Ops.append(x, Ops.i(Ops.BACK, 4, 0, n));
            leavesIn("each slot for itself", x, 4, 50 + n);
        }
    }

    private static void jump() {
        checks.sentence("21 JUMP to");
        for (int to = 2; to <= 30; to++) {
            PacketFilter x = Ops.with(Ops.set(0, 1), Ops.jump(to));
            while (x.code(Ops.ADD, 0, -1, 1, 0) < 30) continue;
            Ops.append(x, Ops.exit());
            checks.due("verify", x.verify(), 0);
            checks.due("no way comes between", x.bound(2, 0, 0), to == 2 ? NUMBER : BAD);
            checks.due("JUMP " + to, x.run(), 1 + 31 - to);
            checks.due("JUMP " + to + ", done", x.ran(0), 2 + 31 - to + 1);
            checks.due("JUMP " + to + ", last", x.ran(1), 31);
        }
    }

    private static void exit() {
        checks.sentence("29 EXIT with register 0.");
        for (int at = 1; at <= 31; at++) {
            PacketFilter x = Ops.with(Ops.set(0, 1000));
            for (int k = 1; k < at; k++) Ops.append(x, Ops.set(k % 5 + 1, k));
            Ops.append(x, Ops.exit());
            // What stands behind it is not done.
            while (x.code(Ops.SET, 0, 0, 7, 0) >= 0) continue;
            checks.due("verify", x.verify(), 0);
            checks.due("EXIT at " + at, x.run(), 1000);
            checks.due("EXIT at " + at + ", done", x.ran(0), at + 1);
            checks.due("EXIT at " + at + ", last", x.ran(1), at);
        }
    }

    /** Whatever register 0 held before, a call makes it anew. */
    private static void calls() {
        int[][][] before = {{Ops.set(0, 9)}, {Ops.move(0, 1), Ops.with(Ops.ADD, 0, 3)}, {Ops.move(0, 2)},
            {Ops.set(1, 2), Ops.i(Ops.FIND), Ops.i(Ops.EQ, 0, -1, 0, 29), Ops.with(Ops.ADD, 0, 5)}};
        for (int[][] each : before) {
            for (int number : new int[] {2, 4, 5}) {
                checks.sentence("18 FIND: register 0 = the entry with the number of register 1, or NULL");
                PacketFilter x = Ops.with(each);
                Ops.append(x, Ops.set(1, number), Ops.i(Ops.FIND), Ops.i(Ops.EQ, 0, -1, 0, 28), Ops.i(Ops.LOAD, 0, 0, 1), Ops.exit());
                isRun(x, number == 5 ? 0 : 40 + number, number == 5 ? 28 : each.length + 4);
            }
            checks.sentence("19 SIZE: register 0 = how many bytes the packet has");
            PacketFilter x = Ops.with(each);
            Ops.append(x, Ops.i(Ops.SIZE), Ops.exit());
            isRun(x, 3, each.length + 1);
            checks.sentence("20 CLOCK: register 0 = how many instructions were done before this one.");
            x = Ops.with(each);
            Ops.append(x, Ops.i(Ops.CLOCK), Ops.exit());
            isRun(x, each.length, each.length + 1);
        }
    }

    /** With a packet of three bytes and entries 2 and 4, of which byte 1 is 40 more than their number. */
    private static void isRun(PacketFilter x, int want, int last) {
        fill(x);
        for (int k = 0; k < 3; k++) x.put(9);
        x.enter(2, 1, 42);
        x.enter(4, 1, 44);
        checks.due("run", x.run(), want);
        checks.due("ran", x.ran(1), last);
    }

    // ---- Kinds, ranges and ways

    /** A register or slot gets what register 0 holds. */
    private static int[] give(int cell) {
        return cell < 6 ? Ops.move(cell, 0) : Ops.i(Ops.SAVE, 0, 0, cell - 6);
    }

    private static void kinds() {
        checks.sentence("KINDS of what a register or slot holds: 0 UNSET, 1 NUMBER, 2 PACKET, a place in the packet (or outside), 3 END, the place behind its last byte, "
            + "4 ENTRY, a place in an entry (or outside), 5 PERHAPS, an entry or NULL.");
        for (int cell = 3; cell < CELLS; cell++) {
            PacketFilter x = Ops.with(Ops.set(0, 6), give(cell), Ops.move(0, 1), give(cell), Ops.with(Ops.SUB, 0, 1), give(cell), Ops.with(Ops.ADD, 0, 4001), give(cell),
                Ops.move(0, 2), give(cell), Ops.set(1, 0), Ops.i(Ops.FIND), give(cell), Ops.i(Ops.NE, 0, -1, 0, 16), Ops.set(0, 0), Ops.exit(), give(cell),
                Ops.with(Ops.SUB, 0, 9), give(cell), Ops.set(0, 0), Ops.exit());
            checks.due("verify", x.verify(), 0);
            int[][] kindFrom = {{0, UNSET}, {2, NUMBER}, {4, PACKET}, {6, PACKET}, {8, PACKET}, {10, END}, {13, PERHAPS}, {14, NUMBER}, {15, NUMBER}, {16, ENTRY}, {17, ENTRY},
                {19, ENTRY}};
            for (int[] each : kindFrom) checks.due("cell " + cell + " at " + each[0], x.bound(each[0], cell, 0), each[1]);
        }
    }

    private static boolean has(PacketFilter x, int at, int r, int v) {
        return v >= x.bound(at, r, 1) && v <= x.bound(at, r, 2) && v % (1 << x.bound(at, r, 3)) == 0;
    }

    private static void ranges() {
        checks.sentence("A RANGE (lo, hi, z) stands for the numbers from lo to hi that are multiples of 2^z (z 0 .. 16).");
        for (int z = 0; z <= 16; z++) {
            for (int size = 0; size <= MOST_BYTES; size++) {
                PacketFilter x = Ops.with(Ops.i(Ops.SIZE), Ops.with(Ops.MUL, 0, 43691), Ops.with(Ops.LEFT, 0, z), Ops.exit());
                checks.due("verify", x.verify(), 0);
                holds(x, "multiples of 2^" + z, 3, 0, r(0, 65536 - (1 << z), z));
                for (int k = 0; k < size; k++) x.put(0);
                int got = x.run();
                checks.due("run, z " + z + ", size " + size, got, size * 43691 << z & 65535);
                checks.due("is one of them", has(x, 3, 0, got), true);
            }
        }
    }

    private static void aRangeOfEach() {
        checks.sentence("A WAY is what is known: of each NUMBER a RANGE");
        PacketFilter x = new PacketFilter();
        for (int cell = CELLS - 1; cell >= 0; cell--) Ops.append(x, Ops.i(Ops.SIZE), Ops.with(Ops.ADD, 0, 100 * cell), give(cell));
        int end = 3 * CELLS;
        Ops.append(x, Ops.exit());
        checks.due("verify", x.verify(), 0);
        // The calls for registers 2 and 1 and 0 leave 1 to 3 UNSET.
        for (int cell = 4; cell < CELLS; cell++) holds(x, "cell " + cell, end, cell, r(100 * cell, 100 * cell + 16, 0));
        holds(x, "cell 0", end, 0, r(0, 16, 0));
        for (int cell = 1; cell <= 3; cell++) checks.due("cell " + cell, x.bound(end, cell, 0), UNSET);
        for (int cell = 1; cell <= 3; cell++) holds(x, "cell " + cell, end - 3 * cell, cell, r(100 * cell, 100 * cell + 16, 0));
    }

    private static void originOfPerhaps() {
        checks.sentence("of PERHAPS the ORIGIN");
        for (int settled = 0; settled <= 1; settled++) {
            PacketFilter x = Ops.with(Ops.set(1, 0), Ops.i(Ops.FIND), Ops.move(4, 0), Ops.i(Ops.SAVE, 0, 0, 0), Ops.set(1, 0), Ops.i(Ops.FIND), Ops.move(5, 0),
                Ops.i(Ops.SAVE, 0, 0, 1), Ops.i(Ops.EQ, 4 + settled, -1, 0, 11), Ops.set(0, 0), Ops.exit(), Ops.set(0, 0), Ops.exit());
            checks.due("verify", x.verify(), 0);
            int[] first = {4, 6}, second = {5, 7};
            for (int cell : settled == 0 ? first : second) {
                checks.due("of the one that was asked, cell " + cell, x.bound(9, cell, 0), ENTRY);
                checks.due("of the one that was asked, cell " + cell, x.bound(11, cell, 0), NUMBER);
            }
            for (int cell : settled == 0 ? second : first) {
                checks.due("of the other one, cell " + cell, x.bound(9, cell, 0), PERHAPS);
                checks.due("of the other one, cell " + cell, x.bound(11, cell, 0), PERHAPS);
            }
        }
    }

    private static void firstWay() {
        checks.sentence("All ways together begin with the one said, at instruction 0.");
        for (int op = 0; op <= Ops.EXIT; op++) {
            PacketFilter x = new PacketFilter();
            checks.due("op " + op, x.code(op, 1, 2, 0, 31), 0);
            // What was found before, and left in the packet and the entries, is not where the next verify() begins.
            for (int times = 0; times < 3; times++) {
                x.put(times);
                x.enter(times, times, times);
                x.verify();
                for (int cell = 0; cell < CELLS; cell++) {
                    checks.due("op " + op + ", cell " + cell, x.bound(0, cell, 0), cell == 1 ? PACKET : cell == 2 ? END : UNSET);
                }
            }
        }
    }

    private static void whatIsMadeHoldsAllResults() {
        checks.sentence("What an operation makes of RANGES x and y");
        int[][] some = {r(0, 0, 16), r(1, 1, 0), r(3, 9, 0), r(0, 16, 3), r(6, 6, 1), r(65530, 65535, 0), r(32768, 65472, 6), r(250, 260, 1), r(0, 65535, 0), r(0, 1, 0)};
        for (int op = Ops.ADD; op <= Ops.RIGHT; op++) {
            for (int[] a : some) for (int[] b : some) {
                PacketFilter x = withRanges(a, b);
                Ops.append(x, Ops.i(op, 4, 5));
                fill(x);
                int lo = x.bound(AT + 1, 4, 1), hi = x.bound(AT + 1, 4, 2), unit = 1 << x.bound(AT + 1, 4, 3);
                for (int v : membersOf(a)) for (int w : membersOf(b)) {
                    int result = Model.result(op, v, w);
                    checks.due(v + " op " + op + " " + w + " is within", result >= lo && result <= hi && result % unit == 0, true);
                }
            }
        }
    }

    /** Some of the numbers of a range, its ends among them. */
    private static int[] membersOf(int[] range) {
        int unit = 1 << range[2];
        int few = Math.min(7, (range[1] - range[0]) / unit);
        int[] all = new int[2 * few + 2];
        for (int k = 0; k <= few; k++) {
            all[2 * k] = range[0] + k * unit;
            all[2 * k + 1] = range[1] - k * unit;
        }
        return Arrays.stream(all).distinct().toArray();
    }

    private static void constantsOfConditions() {
        checks.sentence("A CONDITION on NUMBERS x and y (y a single one, if a constant)");
        int[][] some = {r(0, 65535, 0), r(5, 5, 0), r(4, 12, 2), r(0, 1, 0), r(7, 8, 0)};
        for (int op = Ops.EQ; op <= Ops.BITS; op++) {
            for (int[] a : some) {
                for (int c : new int[] {0, 1, 3, 4, 5, 7, 8, 12, 13, 32768, 65535}) isAsWithRegister(op, a, c);
            }
        }
    }

    /** A condition with a constant leaves of register 4 what it leaves with a register that is that number. */
    private static void isAsWithRegister(int op, int[] a, int c) {
        PacketFilter x = withRanges(a, one(c)), y = withRanges(a, one(c));
        Ops.append(x, Ops.i(op, 4, -1, c, JUMPED), Ops.jump(LEAVE));
        Ops.append(y, Ops.i(op, 4, 5, 0, JUMPED), Ops.jump(LEAVE));
        fill(x);
        fill(y);
        String call = name(op, a, one(c));
        checks.due(call + ", decided", x.decided(AT), y.decided(AT));
        for (int what = 0; what <= 3; what++) {
            checks.due(call + " jumps, " + what, x.bound(JUMPED, 4, what), y.bound(JUMPED, 4, what));
            checks.due(call + " stays, " + what, x.bound(AT + 1, 4, what), y.bound(AT + 1, 4, what));
        }
    }
}
