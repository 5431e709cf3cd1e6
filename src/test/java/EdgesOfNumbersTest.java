/** The edges that the document's terms name of numbers, of what instructions do with them, and of ranges: each sentence with its own test. */
public final class EdgesOfNumbersTest extends Ranges {
    private static final int BAD = PacketFilter.BAD;

    public static void main(String[] args) {
        numbers();
        wrapping();
        divisorsAndShifts();
        registersAndSlots();
        registerOrConstant();
        instructions();
        bytes();
        entries();
        bytesOfEntries();
        size();
        clock();
        trimmed();
        single();
        bothSingle();
        full();
        sums();
        differences();
        products();
        quotients();
        remainders();
        bits();
        shiftsToTheLeft();
        shiftsToTheRight();
        whatIsMade();
        copies();
        checks.end();
    }

    // ---- What is reckoned in a run

    /** Registers 3 and 5 are the two numbers, from the packet, so that nothing is known of them; the next instruction is 7. */
    private static PacketFilter fromPacket(int a, int b) {
        PacketFilter x = Ops.with(Ops.set(0, 0), Ops.move(4, 1), Ops.with(Ops.ADD, 4, 4), Ops.i(Ops.GT, 4, 2, 0, 31), Ops.i(Ops.LOAD2, 3, 1, 0),
            Ops.i(Ops.LOAD2, 5, 1, 2), Ops.move(4, 3));
        for (int v : new int[] {a, a >> 8, b, b >> 8}) x.put(v);
        return x;
    }

    private static void exits(String call, PacketFilter x, int register, int want) {
        Ops.append(x, Ops.move(0, register));
        fill(x);
        checks.due(call, x.run(), want);
    }

    /** a op b, each of them known before or not, and b as a register and as a constant. */
    private static void reckons(int op, int a, int b, int want) {
        String call = a + " op " + op + " " + b;
        PacketFilter x = Ops.with(Ops.set(0, a), Ops.with(op, 0, b), Ops.exit());
        checks.due(call, x.verify(), 0);
        checks.due(call + " known", x.bound(2, 0, 1), want);
        checks.due(call + " known", x.bound(2, 0, 2), want);
        checks.due(call + " known", x.run(), want);
        x = fromPacket(a, b);
        Ops.append(x, Ops.i(op, 3, 5));
        exits(call + " of the packet", x, 3, want);
        x = fromPacket(a, b);
        Ops.append(x, Ops.with(op, 3, b));
        exits(call + " by a constant", x, 3, want);
        x = fromPacket(a, b);
        Ops.append(x, Ops.set(3, a), Ops.i(op, 3, 5));
        exits(call + " of a known number", x, 3, want);
    }

    private static void numbers() {
        checks.sentence("NUMBERS are 0 .. 65535");
        for (int n : new int[] {0, 1, 65534, 65535}) {
            PacketFilter x = Ops.with(Ops.set(0, n), Ops.exit());
            checks.due("SET " + n, x.verify(), 0);
            checks.due("SET " + n, x.run(), n);
            reckons(Ops.OR, 0, n, n);
            reckons(Ops.OR, n, 0, n);
        }
        for (int n : new int[] {-1, 65536}) {
            checks.due("SET " + n, new PacketFilter().code(Ops.SET, 0, 0, n, 0), BAD);
            checks.due("OR " + n, new PacketFilter().code(Ops.OR, 0, -1, n, 0), BAD);
            checks.due("if it is " + n, new PacketFilter().code(Ops.EQ, 0, -1, n, 1), BAD);
        }
    }

    private static void wrapping() {
        checks.sentence("all that is reckoned wraps");
        reckons(Ops.ADD, 65534, 1, 65535);
        reckons(Ops.ADD, 65535, 1, 0);
        reckons(Ops.ADD, 65535, 65535, 65534);
        reckons(Ops.ADD, 32768, 32767, 65535);
        reckons(Ops.ADD, 32768, 32768, 0);
        reckons(Ops.SUB, 1, 1, 0);
        reckons(Ops.SUB, 0, 1, 65535);
        reckons(Ops.SUB, 0, 65535, 1);
        reckons(Ops.SUB, 65534, 65535, 65535);
        reckons(Ops.SUB, 65535, 65535, 0);
        reckons(Ops.MUL, 255, 257, 65535);
        reckons(Ops.MUL, 256, 256, 0);
        reckons(Ops.MUL, 256, 257, 256);
        reckons(Ops.MUL, 65535, 65535, 1);
        reckons(Ops.MUL, 32768, 2, 0);
        reckons(Ops.LEFT, 32767, 1, 65534);
        reckons(Ops.LEFT, 32768, 1, 0);
        reckons(Ops.LEFT, 65535, 1, 65534);
        reckons(Ops.LEFT, 65535, 15, 32768);
    }

    private static void divisorsAndShifts() {
        checks.sentence("x / 0 is 0");
        for (int a : new int[] {0, 1, 65535}) {
            reckons(Ops.DIV, a, 0, 0);
            reckons(Ops.DIV, a, 1, a);
            reckons(Ops.DIV, a, 65535, a == 65535 ? 1 : 0);
        }
        checks.sentence("x mod 0 is x");
        for (int a : new int[] {0, 1, 65534, 65535}) {
            reckons(Ops.MOD, a, 0, a);
            reckons(Ops.MOD, a, 1, 0);
            reckons(Ops.MOD, a, 65535, a == 65535 ? 0 : a);
        }
        checks.sentence("a shift by 16 or more gives 0");
        for (int by : new int[] {16, 17, 31, 32, 33, 48, 64, 256, 65535}) {
            for (int a : new int[] {1, 32768, 65535}) {
                reckons(Ops.LEFT, a, by, 0);
                reckons(Ops.RIGHT, a, by, 0);
            }
        }
        reckons(Ops.LEFT, 1, 0, 1);
        reckons(Ops.LEFT, 1, 15, 32768);
        reckons(Ops.LEFT, 3, 15, 32768);
        reckons(Ops.RIGHT, 65535, 0, 65535);
        reckons(Ops.RIGHT, 32767, 15, 0);
        reckons(Ops.RIGHT, 32768, 15, 1);
    }

    private static void registersAndSlots() {
        checks.sentence("REGISTERS are 0 .. 5, SLOTS 0 .. 3.");
        for (int at = 0; at <= 9; at++) {
            // Each place has a number of its own, and it is asked for at last.
            PacketFilter x = new PacketFilter();
            for (int slot = 0; slot < 4; slot++) Ops.append(x, Ops.set(0, 70 + slot), Ops.i(Ops.SAVE, 0, 0, slot));
            for (int r = 0; r < 6; r++) Ops.append(x, Ops.set(r, 50 + r));
            Ops.append(x, at < 6 ? Ops.move(0, at) : Ops.i(Ops.BACK, 0, 0, at - 6), Ops.exit());
            int want = at < 6 ? 50 + at : 70 + at - 6;
            checks.due("verify", x.verify(), 0);
            checks.due("what " + at + " holds", x.run(), want);
            checks.due("what " + at + " holds", x.bound(14, at, 1), want);
        }
        for (int r : new int[] {-1, 6}) {
            checks.due("MOVE to " + r, new PacketFilter().code(Ops.MOVE, r, 1, 0, 0), BAD);
            checks.due("MOVE of " + r, new PacketFilter().code(Ops.MOVE, 1, r, 0, 0), BAD);
        }
        for (int slot : new int[] {-1, 4}) {
            checks.due("SAVE " + slot, new PacketFilter().code(Ops.SAVE, 1, 0, slot, 0), BAD);
            checks.due("BACK " + slot, new PacketFilter().code(Ops.BACK, 1, 0, slot, 0), BAD);
        }
    }

    private static void registerOrConstant() {
        checks.sentence("X is register s, or with s -1 the constant n.");
        for (int s = -1; s <= 5; s++) {
            PacketFilter x = new PacketFilter();
            for (int r = 0; r < 6; r++) Ops.append(x, Ops.set(r, 100 + r));
            Ops.append(x, Ops.i(Ops.ADD, 4, s, 7), Ops.move(0, 4), Ops.exit());
            checks.due("verify", x.verify(), 0);
            int want = s == -1 ? 111 : 204 + s;
            checks.due("register 4 and that of " + s, x.run(), want);
            holds(x, "register 4 and that of " + s, 7, 4, r(want, want, Integer.numberOfTrailingZeros(want)));
        }
    }

    private static void instructions() {
        checks.sentence("A PROGRAM has at most 32 instructions, numbered from 0, among them at most 5 CONDITIONS (22 to 28).");
        // The longest one, with as many conditions as there may be, the first at 1 and the last at 30; all of it is done, or the last jump is taken.
        for (int taken = 0; taken <= 1; taken++) {
            PacketFilter x = Ops.with(Ops.i(Ops.SIZE));
            for (int k = 1; k < 31; k++) {
                boolean condition = k <= 4 || k == 30;
                int number = x.code(condition ? Ops.EQ : Ops.JUMP, 0, -1, k == 30 ? taken : 9, k == 30 ? 31 : k + 1);
                checks.due("code", number, k);
            }
            checks.due("no sixth condition", x.code(Ops.EQ, 0, -1, 1, 31), BAD);
            checks.due("the last one", x.code(Ops.EXIT, 0, 0, 0, 0), 31);
            checks.due("no more", x.code(Ops.EXIT, 0, 0, 0, 0), PacketFilter.FULL);
            checks.due("verify", x.verify(), 0);
            x.put(1);
            checks.due("run", x.run(), 1);
            checks.due("how many", x.ran(0), 32);
            checks.due("which one", x.ran(1), 31);
        }
        checks.sentence("Jumps go on to higher numbers only.");
        for (int op = Ops.JUMP; op <= Ops.BITS; op++) {
            PacketFilter x = Ops.with(Ops.set(0, 1), Ops.set(4, 1), Ops.set(5, 1));
            for (int to = 0; to <= 3; to++) checks.due(op + " to " + to, x.code(op, 4, 5, 0, to), BAD);
            checks.due(op + " to 4", x.code(op, 4, 5, 0, 4), 3);
        }
    }

    private static void bytes() {
        checks.sentence("12 LOAD d = the byte at s + n");
        for (int at = 0; at < 16; at++) {
            for (int n : new int[] {0, at, 16, 255}) {
                // The place is moved so far that with n it is the byte.
                PacketFilter x = Ops.with(Ops.set(0, 0), Ops.move(4, 1), Ops.with(Ops.ADD, 4, 16), Ops.i(Ops.GT, 4, 2, 0, 31),
                    at < n ? Ops.with(Ops.SUB, 1, n - at) : Ops.with(Ops.ADD, 1, at - n), Ops.i(Ops.LOAD, 0, 1, n));
                for (int k = 0; k < 16; k++) x.put(255 - k);
                exits("byte " + at + " with n " + n, x, 0, 255 - at);
            }
        }
        checks.sentence("13 LOAD2 the two bytes there, the lower one first");
        for (int[] each : new int[][] {{0, 0, 0}, {255, 0, 255}, {0, 1, 256}, {0, 255, 65280}, {255, 255, 65535}, {1, 128, 32769}}) {
            PacketFilter x = Ops.with(Ops.set(0, 0), Ops.move(4, 1), Ops.with(Ops.ADD, 4, 2), Ops.i(Ops.GT, 4, 2, 0, 31), Ops.i(Ops.LOAD2, 0, 1, 0));
            x.put(each[0]);
            x.put(each[1]);
            exits("LOAD2", x, 0, each[2]);
        }
        checks.sentence("14 STORE at d + n the lowest byte of s, 15 STORE2 both, likewise");
        for (int v : new int[] {0, 255, 256, 0x1234, 65280, 65535}) {
            for (int op : new int[] {Ops.STORE, Ops.STORE2}) {
                PacketFilter x = Ops.with(Ops.set(0, v), Ops.move(4, 1), Ops.with(Ops.ADD, 4, 4), Ops.i(Ops.GT, 4, 2, 0, 31), Ops.i(op, 1, 0, 2));
                for (int k = 1; k <= 5; k++) x.put(k);
                exits("STORE", x, 0, v);
                int[] want = {1, 2, v & 255, op == Ops.STORE ? 4 : v >> 8, 5};
                for (int k = 0; k < 5; k++) checks.due("byte " + k + " after " + op + " of " + v, x.packet(k), want[k]);
            }
        }
    }

    private static void entries() {
        checks.sentence("18 FIND: register 0 = the entry with the number of register 1, or NULL");
        // 256 and 65535 have no entry either, though their lowest bits are those of one.
        for (int number : new int[] {0, 1, 6, 7, 8, 9, 255, 256, 263, 32768, 65535}) {
            for (int there = 0; there <= 1; there++) {
                PacketFilter x = fromPacket(number, 0);
                Ops.append(x, Ops.move(1, 3), Ops.i(Ops.FIND), Ops.i(Ops.EQ, 0, -1, 0, 31), Ops.i(Ops.LOAD, 0, 0, 7));
                for (int e = 0; e < 8; e++) {
                    if (e != number || there == 1) x.enter(e, 7, 100 + e);
                }
                exits("FIND " + number, x, 0, there == 1 && number < 8 ? 100 + number : 0);
            }
        }
    }

    private static void bytesOfEntries() {
        checks.sentence("ENTRIES 0 .. 7 are there or not, with 8 bytes each.");
        for (int e = 0; e < 8; e++) {
            // Two bytes of one entry become 0: its first and its last; those beside them, of other entries and of the packet, stay.
            for (int n : new int[] {0, 6}) {
                PacketFilter x = Ops.with(Ops.set(1, e), Ops.i(Ops.FIND), Ops.i(Ops.NE, 0, -1, 0, 4), Ops.exit(), Ops.set(4, 0), Ops.i(Ops.STORE2, 0, 4, n),
                    Ops.set(0, 1));
                fill(x);
                for (int k = 0; k < 64; k++) x.enter(k / 8, k % 8, 100 + k);
                for (int k = 0; k < 16; k++) x.put(200 + k);
                checks.due("run", x.run(), 1);
                for (int k = 0; k < 64; k++) {
                    boolean written = k / 8 == e && (k % 8 == n || k % 8 == n + 1);
                    checks.due("byte " + k % 8 + " of entry " + k / 8, x.entry(k / 8, k % 8), written ? 0 : 100 + k);
                }
                for (int k = 0; k < 16; k++) checks.due("byte " + k + " of the packet", x.packet(k), 200 + k);
                checks.due("drop", x.drop(e), true);
                checks.due("not there", x.run(), 0);
                checks.due("not there", x.ran(1), 3);
            }
        }
    }

    private static void size() {
        checks.sentence("19 SIZE: register 0 = how many bytes the packet has");
        for (int length : new int[] {0, 1, 15, 16}) {
            PacketFilter x = Ops.with(Ops.i(Ops.SIZE), Ops.exit());
            for (int k = 0; k < length; k++) x.put(0);
            checks.due("verify", x.verify(), 0);
            checks.due("SIZE", x.run(), length);
        }
        checks.sentence("The PACKET has 0 .. 16 bytes");
        PacketFilter x = Ops.with(Ops.i(Ops.SIZE), Ops.exit());
        checks.due("verify", x.verify(), 0);
        for (int k = 0; k <= 16; k++) {
            checks.due("SIZE", x.run(), k);
            checks.due("put", x.put(k), k < 16 ? k + 1 : PacketFilter.FULL);
        }
        checks.due("SIZE of a full packet", x.run(), 16);
    }

    private static void clock() {
        checks.sentence("20 CLOCK: register 0 = how many instructions were done before this one.");
        for (int before = 0; before <= 30; before++) {
            PacketFilter x = new PacketFilter();
            for (int k = 0; k < before; k++) Ops.append(x, Ops.set(5, k));
            Ops.append(x, Ops.i(Ops.CLOCK), Ops.exit());
            checks.due("verify", x.verify(), 0);
            checks.due("CLOCK", x.run(), before);
            checks.due("ran", x.ran(0), before + 2);
        }
        PacketFilter x = Ops.with(Ops.jump(30));
        for (int k = 1; k < 30; k++) Ops.append(x, Ops.set(5, k));
        Ops.append(x, Ops.i(Ops.CLOCK), Ops.exit());
        checks.due("verify", x.verify(), 0);
        checks.due("CLOCK after a jump", x.run(), 1);

        checks.sentence("After these three registers 1, 2, 3 are UNSET.");
        for (int op = Ops.FIND; op <= Ops.CLOCK; op++) {
            x = new PacketFilter();
            for (int r = 1; r < 6; r++) Ops.append(x, Ops.set(r, r));
            for (int slot = 0; slot < 4; slot++) Ops.append(x, Ops.i(Ops.SAVE, 2, 0, slot));
            Ops.append(x, Ops.i(op), Ops.set(0, 0), Ops.exit());
            checks.due("verify", x.verify(), 0);
            for (int r = 1; r < 10; r++) checks.due(r + " after " + op, x.bound(10, r, 0), r <= 3 ? 0 : 1);
            checks.due("register 0 after " + op, x.bound(10, 0, 0), op == Ops.FIND ? 5 : 1);
        }
    }

    // ---- Ranges

    /** What is left of 0 .. 64 with z 3 where it is at least low and at most high; null if nothing is. */
    private static void trims(int low, int high, int[] want) {
        PacketFilter x = new PacketFilter();
        give(x, 4, r(0, 64, 3));
        Ops.append(x, Ops.i(Ops.LT, 4, -1, low, LEAVE), Ops.i(Ops.GT, 4, -1, high, LEAVE));
        fill(x);
        if (want != null) holds(x, low + " .. " + high, 8, 4, want);
        else checks.due(low + " .. " + high, x.bound(8, 4, 0), BAD);
    }

    private static void trimmed() {
        checks.sentence("It is always TRIMMED: lo up and hi down to such multiples");
        trims(0, 64, r(0, 64, 3));
        trims(1, 64, r(8, 64, 3));
        trims(7, 64, r(8, 64, 3));
        trims(8, 64, r(8, 64, 3));
        trims(9, 64, r(16, 64, 3));
        trims(0, 63, r(0, 56, 3));
        trims(0, 57, r(0, 56, 3));
        trims(0, 56, r(0, 56, 3));
        trims(0, 55, r(0, 48, 3));
        makes(Ops.ADD, r(0, 65534, 1), r(0, 65535, 0), r(0, 65535, 0));
        makes(Ops.ADD, r(0, 65534, 1), r(0, 65534, 1), r(0, 65534, 1));
        makes(Ops.LEFT, r(0, 65535, 0), one(14), r(0, 49152, 14));

        checks.sentence("it is EMPTY if lo is above hi");
        trims(9, 15, null);
        trims(9, 16, r(16, 16, 4));
        trims(8, 15, r(8, 8, 3));
        trims(17, 16, null);
        trims(17, 23, null);
        trims(57, 63, null);
        trims(64, 65535, r(64, 64, 6));
        trims(65, 65535, null);
    }

    private static void single() {
        checks.sentence("if they are the same then, z is the number of zeros at its low end (16 for 0)");
        for (int z = 0; z <= 15; z++) {
            trimsSet(1 << z, z);
            trimsSet(65535 >> z << z, z);
            trimsSet(3 << z & 65535, z);
        }
        trimsSet(0, 16);
        trims(0, 7, r(0, 0, 16));
        trims(1, 8, r(8, 8, 3));
        trims(16, 23, r(16, 16, 4));
        trims(25, 39, r(32, 32, 5));
        makes(Ops.DIV, r(32, 47, 0), one(16), r(2, 2, 1));
        makes(Ops.RIGHT, r(0, 7, 0), one(3), r(0, 0, 16));
        makes(Ops.AND, r(0, 65535, 0), one(0), r(0, 0, 16));
    }

    private static void trimsSet(int v, int zeros) {
        PacketFilter x = Ops.with(Ops.set(0, v), Ops.exit());
        checks.due("verify", x.verify(), 0);
        holds(x, "SET " + v, 1, 0, r(v, v, zeros));
    }

    private static void bothSingle() {
        checks.sentence("if both are single numbers, its result");
        makes(Ops.ADD, one(65535), one(2), r(1, 1, 0));
        makes(Ops.SUB, one(2), one(4), r(65534, 65534, 1));
        makes(Ops.MUL, one(256), one(256), r(0, 0, 16));
        makes(Ops.DIV, one(9), one(0), r(0, 0, 16));
        makes(Ops.MOD, one(9), one(0), r(9, 9, 0));
        makes(Ops.MOD, one(9), one(9), r(0, 0, 16));
        makes(Ops.AND, one(6), one(3), r(2, 2, 1));
        makes(Ops.OR, one(6), one(3), r(7, 7, 0));
        makes(Ops.XOR, one(6), one(3), r(5, 5, 0));
        makes(Ops.LEFT, one(65535), one(15), r(32768, 32768, 15));
        makes(Ops.LEFT, one(65535), one(16), r(0, 0, 16));
        makes(Ops.RIGHT, one(65535), one(15), r(1, 1, 0));
        makes(Ops.RIGHT, one(65535), one(16), r(0, 0, 16));
    }

    private static void full() {
        checks.sentence("FULL is 0 .. 65535, with the z said");
        for (int z = 0; z <= 15; z++) {
            int unit = 1 << z, top = 65536 - unit;
            // All multiples of 2^z, which are at least two, and what makes them FULL again.
            int[] all = r(0, top, z);
            makes(Ops.ADD, all, r(0, top, z), all);
            makes(Ops.ADD, all, one(unit), all);
            makes(Ops.SUB, all, r(0, top, z), all);
            makes(Ops.SUB, all, one(unit), all);
            makes(Ops.LEFT, all, r(0, 1, 0), all);
            makes(Ops.MUL, r(0, 65535, 0), one(unit), all);
            makes(Ops.LEFT, r(0, 65535, 0), one(z), all);
        }
        makes(Ops.MUL, r(0, 65534, 1), one(32768), r(0, 0, 16));
        makes(Ops.LEFT, r(0, 65534, 1), one(15), r(0, 0, 16));
    }

    private static void sums() {
        checks.sentence("ADD the sums of los and his, z the lesser one");
        makes(Ops.ADD, r(0, 65534, 0), one(1), r(1, 65535, 0));
        makes(Ops.ADD, r(0, 64, 4), r(0, 64, 3), r(0, 128, 3));
        makes(Ops.ADD, r(0, 64, 3), r(0, 64, 4), r(0, 128, 3));
        makes(Ops.ADD, r(0, 64, 3), one(0), r(0, 64, 3));
        makes(Ops.ADD, r(0, 64, 3), one(1), r(1, 65, 0));

        checks.sentence("if the sum of his is above 65535: both less 65536 if that of los is, too, else FULL.");
        makes(Ops.ADD, r(1, 65530, 0), r(3, 5, 0), r(4, 65535, 0));
        makes(Ops.ADD, r(1, 65530, 0), r(3, 6, 0), r(0, 65535, 0));
        makes(Ops.ADD, r(65530, 65531, 0), r(5, 9, 0), r(0, 65535, 0));
        makes(Ops.ADD, r(65530, 65531, 0), r(6, 9, 0), r(0, 4, 0));
        makes(Ops.ADD, r(65535, 65535, 0), r(65534, 65535, 0), r(65533, 65534, 0));
        makes(Ops.ADD, r(0, 65528, 3), one(8), r(0, 65528, 3));
        makes(Ops.ADD, r(8, 65528, 3), one(65528), r(0, 65520, 3));
    }

    private static void differences() {
        checks.sentence("SUB lo of x - hi of y, hi of x - lo of y, z the lesser");
        makes(Ops.SUB, r(10, 20, 0), r(3, 5, 0), r(5, 17, 0));
        makes(Ops.SUB, r(64, 128, 4), r(0, 64, 3), r(0, 128, 3));
        makes(Ops.SUB, r(64, 128, 3), r(0, 64, 4), r(0, 128, 3));

        checks.sentence("if the first is below 0: both and 65536 if the second is, too, else FULL.");
        makes(Ops.SUB, r(10, 20, 0), r(3, 10, 0), r(0, 17, 0));
        makes(Ops.SUB, r(10, 20, 0), r(3, 11, 0), r(0, 65535, 0));
        makes(Ops.SUB, r(10, 20, 0), r(20, 30, 0), r(0, 65535, 0));
        makes(Ops.SUB, r(10, 20, 0), r(21, 30, 0), r(65516, 65535, 0));
        makes(Ops.SUB, r(0, 1, 0), one(65535), r(1, 2, 0));
        makes(Ops.SUB, r(0, 64, 3), one(8), r(0, 65528, 3));
        makes(Ops.SUB, r(0, 64, 3), one(72), r(65464, 65528, 3));
    }

    private static void products() {
        checks.sentence("MUL the products, z their sum, 16 at most");
        makes(Ops.MUL, r(2, 3, 0), r(4, 5, 0), r(8, 15, 0));
        makes(Ops.MUL, r(0, 64, 2), r(0, 64, 3), r(0, 4096, 5));
        makes(Ops.MUL, r(0, 65280, 8), r(0, 65408, 7), r(0, 32768, 15));
        makes(Ops.MUL, r(0, 65280, 8), r(0, 65280, 8), r(0, 0, 16));
        makes(Ops.MUL, r(0, 65280, 8), r(0, 65024, 9), r(0, 0, 16));
        makes(Ops.MUL, r(0, 32768, 15), r(0, 32768, 15), r(0, 0, 16));
        makes(Ops.MUL, r(0, 65535, 0), one(0), r(0, 0, 16));

        checks.sentence("FULL if that of his is above 65535.");
        makes(Ops.MUL, r(1, 255, 0), r(2, 257, 0), r(2, 65535, 0));
        makes(Ops.MUL, r(1, 256, 0), r(2, 256, 0), r(0, 65535, 0));
        makes(Ops.MUL, r(2, 65535, 0), one(1), r(2, 65535, 0));
        makes(Ops.MUL, r(2, 32768, 1), one(2), r(0, 65532, 2));
        makes(Ops.MUL, r(65534, 65535, 0), r(65534, 65535, 0), r(0, 65535, 0));
    }

    private static void quotients() {
        checks.sentence("DIV by a single c: lo / c, hi / c (0, 0 for c 0), else 0 .. hi of x; z 0.");
        makes(Ops.DIV, r(8, 64, 3), one(0), r(0, 0, 16));
        makes(Ops.DIV, r(8, 64, 3), one(1), r(8, 64, 0));
        makes(Ops.DIV, r(8, 64, 3), one(8), r(1, 8, 0));
        makes(Ops.DIV, r(8, 64, 3), one(9), r(0, 7, 0));
        makes(Ops.DIV, r(8, 64, 3), one(64), r(0, 1, 0));
        makes(Ops.DIV, r(8, 64, 3), one(65), r(0, 0, 16));
        makes(Ops.DIV, r(8, 64, 3), one(65535), r(0, 0, 16));
        makes(Ops.DIV, r(8, 64, 3), r(0, 1, 0), r(0, 64, 0));
        makes(Ops.DIV, r(8, 64, 3), r(8, 16, 3), r(0, 64, 0));
        makes(Ops.DIV, one(64), r(2, 3, 0), r(0, 64, 0));
    }

    private static void remainders() {
        checks.sentence("MOD by a single c: x, if c is 0 or its hi below c, else 0 .. c - 1, z the lesser of x's and c's");
        makes(Ops.MOD, r(8, 64, 3), one(0), r(8, 64, 3));
        makes(Ops.MOD, r(8, 64, 3), one(1), r(0, 0, 16));
        makes(Ops.MOD, r(8, 64, 3), one(63), r(0, 62, 0));
        makes(Ops.MOD, r(8, 64, 3), one(64), r(0, 56, 3));
        makes(Ops.MOD, r(8, 64, 3), one(65), r(8, 64, 3));
        makes(Ops.MOD, r(8, 64, 3), one(60), r(0, 56, 2));
        makes(Ops.MOD, r(8, 64, 0), one(64), r(0, 63, 0));
        makes(Ops.MOD, r(8, 65535, 0), one(65535), r(0, 65534, 0));
        makes(Ops.MOD, r(8, 65534, 0), one(65535), r(8, 65534, 0));

        checks.sentence("by others 0 .. hi of x, z the lesser.");
        makes(Ops.MOD, r(8, 64, 3), r(0, 1, 0), r(0, 64, 0));
        makes(Ops.MOD, r(8, 64, 3), r(0, 2, 1), r(0, 64, 1));
        makes(Ops.MOD, r(8, 64, 1), r(0, 16, 3), r(0, 64, 1));
        makes(Ops.MOD, r(8, 64, 3), r(72, 80, 3), r(0, 64, 3));
        makes(Ops.MOD, one(64), r(72, 80, 3), r(0, 64, 3));
    }

    private static void bits() {
        checks.sentence("AND 0 .. the lesser hi, z the greater.");
        makes(Ops.AND, r(8, 64, 3), r(5, 50, 0), r(0, 48, 3));
        makes(Ops.AND, r(5, 50, 0), r(8, 64, 3), r(0, 48, 3));
        makes(Ops.AND, r(1, 65535, 0), one65535(), r(0, 65535, 0));
        makes(Ops.AND, r(1, 65535, 0), one(0), r(0, 0, 16));
        makes(Ops.AND, r(8, 64, 3), one(7), r(0, 0, 16));
        makes(Ops.AND, r(8, 64, 3), one(8), r(0, 8, 3));

        checks.sentence("ONES(v) the least 2^k - 1 that is v or more");
        for (int k = 1; k <= 15; k++) {
            int top = 1 << k;
            makes(Ops.XOR, r(0, top - 1, 0), one(0), r(0, top - 1, 0));
            makes(Ops.XOR, r(0, top, 0), one(0), r(0, 2 * top - 1, 0));
            makes(Ops.XOR, r(0, top + 1 & 65535, 0), one(0), r(0, 2 * top - 1, 0));
        }
        makes(Ops.XOR, r(0, 65535, 0), one(0), r(0, 65535, 0));
        makes(Ops.XOR, r(0, 1, 0), r(0, 1, 0), r(0, 1, 0));

        checks.sentence("OR the greater lo .. ONES(his by OR), z the lesser.");
        makes(Ops.OR, r(8, 64, 3), r(20, 48, 2), r(20, 124, 2));
        makes(Ops.OR, r(20, 48, 2), r(8, 64, 3), r(20, 124, 2));
        makes(Ops.OR, r(8, 56, 3), one(0), r(8, 56, 3));
        makes(Ops.OR, r(3, 4, 0), r(3, 3, 0), r(3, 7, 0));
        makes(Ops.OR, r(0, 32768, 0), one65535(), one65535());

        checks.sentence("XOR 0 .. ONES(his by OR), z the lesser.");
        makes(Ops.XOR, r(8, 64, 3), r(20, 48, 2), r(0, 124, 2));
        makes(Ops.XOR, r(20, 48, 2), r(8, 64, 3), r(0, 124, 2));
        makes(Ops.XOR, r(8, 9, 0), r(4, 4, 0), r(0, 15, 0));
        makes(Ops.XOR, r(1, 32768, 0), one(1), r(0, 65535, 0));
    }

    private static void shiftsToTheLeft() {
        checks.sentence("LEFT by a single k: 0 for k 16 or more, else lo and hi shifted, FULL if hi is above 65535 then, z + k, 16 at most");
        makes(Ops.LEFT, r(1, 5, 0), one(0), r(1, 5, 0));
        makes(Ops.LEFT, r(1, 65535, 0), one(0), r(1, 65535, 0));
        makes(Ops.LEFT, r(0, 1, 0), one(15), r(0, 32768, 15));
        for (int by : new int[] {16, 17, 31, 32, 33, 65535}) makes(Ops.LEFT, r(1, 5, 0), one(by), r(0, 0, 16));
        makes(Ops.LEFT, r(1, 32767, 0), one(1), r(2, 65534, 1));
        makes(Ops.LEFT, r(1, 32768, 0), one(1), r(0, 65534, 1));
        makes(Ops.LEFT, r(1, 4095, 0), one(4), r(16, 65520, 4));
        makes(Ops.LEFT, r(1, 4096, 0), one(4), r(0, 65520, 4));
        makes(Ops.LEFT, r(0, 64, 3), one(12), r(0, 32768, 15));
        makes(Ops.LEFT, r(0, 64, 3), one(13), r(0, 0, 16));
        makes(Ops.LEFT, r(0, 64, 3), one(14), r(0, 0, 16));
        makes(Ops.LEFT, r(65534, 65535, 0), one(15), r(0, 32768, 15));

        checks.sentence("by others FULL, z of x.");
        makes(Ops.LEFT, r(0, 64, 3), r(0, 1, 0), r(0, 65528, 3));
        makes(Ops.LEFT, r(0, 64, 3), r(0, 16, 4), r(0, 65528, 3));
        makes(Ops.LEFT, r(1, 2, 0), r(16, 17, 0), r(0, 65535, 0));
        makes(Ops.LEFT, one(0), r(0, 1, 0), r(0, 0, 16));
        makes(Ops.LEFT, one(32768), r(0, 1, 0), r(0, 32768, 15));
    }

    private static void shiftsToTheRight() {
        checks.sentence("RIGHT by a single k: 0 for k 16 or more, else lo and hi shifted, z - k, 0 at least");
        makes(Ops.RIGHT, r(8, 64, 3), one(0), r(8, 64, 3));
        makes(Ops.RIGHT, r(8, 64, 3), one(2), r(2, 16, 1));
        makes(Ops.RIGHT, r(8, 64, 3), one(3), r(1, 8, 0));
        makes(Ops.RIGHT, r(8, 64, 3), one(4), r(0, 4, 0));
        makes(Ops.RIGHT, r(8, 64, 3), one(7), r(0, 0, 16));
        makes(Ops.RIGHT, r(1, 65535, 0), one(15), r(0, 1, 0));
        for (int by : new int[] {16, 17, 31, 32, 33, 65535}) makes(Ops.RIGHT, r(1, 65535, 0), one(by), r(0, 0, 16));

        checks.sentence("by others 0 .. hi of x, z 0.");
        makes(Ops.RIGHT, r(8, 64, 3), r(0, 1, 0), r(0, 64, 0));
        makes(Ops.RIGHT, r(8, 64, 3), r(16, 17, 0), r(0, 64, 0));
        makes(Ops.RIGHT, one(64), r(0, 1, 0), r(0, 64, 0));
    }

    private static void whatIsMade() {
        checks.sentence("SET is a single number, LOAD 0 .. 255, LOAD2 0 .. 65535, SIZE 0 .. 16, CLOCK 0 .. 31 (z 0), FIND PERHAPS");
        PacketFilter x = Ops.with(Ops.set(0, 12), Ops.move(4, 1), Ops.with(Ops.ADD, 4, 2), Ops.i(Ops.GT, 4, 2, 0, 31), Ops.i(Ops.LOAD, 0, 1, 0),
            Ops.i(Ops.LOAD2, 5, 1, 0), Ops.i(Ops.SIZE), Ops.i(Ops.CLOCK), Ops.set(1, 0), Ops.i(Ops.FIND), Ops.set(0, 0));
        fill(x);
        holds(x, "SET", 1, 0, r(12, 12, 2));
        holds(x, "LOAD", 5, 0, r(0, 255, 0));
        holds(x, "LOAD2", 6, 5, r(0, 65535, 0));
        holds(x, "SIZE", 7, 0, r(0, 16, 0));
        holds(x, "CLOCK", 8, 0, r(0, 31, 0));
        checks.due("FIND", x.bound(10, 0, 0), 5);
        for (int what = 1; what <= 3; what++) checks.due("no range of PERHAPS", x.bound(10, 0, what), BAD);
    }

    private static void copies() {
        checks.sentence("MOVE, SAVE and BACK copy all that is known.");
        // A range goes from 4 to a slot, from there to 5, and to 3; then the first one changes, and no copy with it.
        PacketFilter x = new PacketFilter();
        give(x, 4, r(8, 64, 3));
        Ops.append(x, Ops.i(Ops.SAVE, 4, 0, 3), Ops.i(Ops.BACK, 5, 0, 3), Ops.move(3, 5), Ops.with(Ops.ADD, 4, 1));
        fill(x);
        for (int at : new int[] {9, 5, 3}) holds(x, "copy in " + at, 10, at, r(8, 64, 3));
        holds(x, "the first one", 10, 4, r(9, 65, 0));
    }
}
