/** The edges that the sixteen promises name: each sentence with its own test, the last input that is good and the first that is not. */
public final class EdgesOfCallsTest {
    private static final int BAD = PacketFilter.BAD, FULL = PacketFilter.FULL;
    private static final int FAR = Integer.MAX_VALUE, LOW = Integer.MIN_VALUE;
    private static final Checks checks = new Checks();

    public static void main(String[] args) {
        newObject();
        numberOfAnInstruction();
        operations();
        registers();
        operands();
        constants();
        targets();
        full();
        knownNoMore();
        wipe();
        verify();
        place();
        bound();
        boundBeforeAnInstruction();
        boundOfSeveralWays();
        boundAndPlace();
        decided();
        decidedAndPlace();
        put();
        cut();
        packet();
        enter();
        drop();
        entry();
        run();
        ran();
        badBeforeFull();
        notUsed();
        changes();
        lastCall();
        checks.end();
    }

    // ---- Promise 1

    private static void newObject() {
        checks.sentence("No instructions, an empty packet, no entries.");
        PacketFilter x = new PacketFilter();
        checks.due("ran", x.ran(0), BAD);
        checks.due("ran", x.ran(1), BAD);
        checks.due("run", x.run(), BAD);
        checks.due("place", x.place(), BAD);
        checks.due("bound", x.bound(0, 1, 0), BAD);
        checks.due("decided", x.decided(0), BAD);
        for (int k = -1; k <= 16; k++) checks.due("packet", x.packet(k), BAD);
        for (int e = 0; e < 8; e++) {
            for (int k = 0; k < 8; k++) checks.due("entry", x.entry(e, k), BAD);
            checks.due("drop", x.drop(e), false);
        }
        checks.due("cut", x.cut(), 0);
        checks.due("wipe", x.wipe(), 0);
        checks.due("verify", x.verify(), 6);
        checks.due("place", x.place(), 0);
        checks.due("bound", x.bound(0, 1, 0), BAD);
        checks.due("run", x.run(), BAD);
        checks.due("first put", x.put(0), 1);
        checks.due("first code", x.code(Ops.EXIT, 0, 0, 0, 0), 0);
    }

    // ---- Promise 2

    private static void numberOfAnInstruction() {
        checks.sentence("Appends an instruction: its number.");
        PacketFilter x = new PacketFilter();
        for (int k = 0; k < 32; k++) checks.due("code", x.code(k % 21, 0, 1, 0, 0), k);
        checks.due("wipe", x.wipe(), 32);
        checks.due("code", x.code(Ops.EXIT, 0, 0, 0, 0), 0);
    }

    private static void codeIs(int want, int op, int d, int s, int n, int to) {
        checks.due("code(" + op + ", " + d + ", " + s + ", " + n + ", " + to + ")", new PacketFilter().code(op, d, s, n, to), want);
    }

    private static void operations() {
        checks.sentence("BAD if op is not 0 .. 29");
        for (int op : new int[] {LOW, -2, -1, 30, 31, 256, FAR}) codeIs(BAD, op, 0, 1, 0, 1);
        for (int op = 0; op <= 29; op++) codeIs(0, op, 0, 1, 0, 1);
    }

    private static boolean isCondition(int op) {
        return op >= Ops.EQ && op <= Ops.BITS;
    }

    private static boolean takesX(int op) {
        return op >= Ops.ADD && op <= Ops.RIGHT || isCondition(op);
    }

    private static boolean usesD(int op) {
        return op <= Ops.BACK || isCondition(op);
    }

    private static boolean usesS(int op) {
        return op == Ops.MOVE || op >= Ops.LOAD && op <= Ops.STORE2;
    }

    private static void registers() {
        checks.sentence("d and s 0 .. 5");
        for (int op = 0; op <= 29; op++) {
            for (int r : new int[] {LOW, -2, -1, 6, 7, FAR}) {
                codeIs(usesD(op) ? BAD : 0, op, r, 1, 0, 1);
                if (r != -1) codeIs(usesS(op) || takesX(op) ? BAD : 0, op, 0, r, 0, 1);
                else codeIs(usesS(op) ? BAD : 0, op, 0, r, 0, 1);
            }
            for (int r = 0; r <= 5; r++) {
                codeIs(0, op, r, (r + 1) % 6, 0, 1);
                codeIs(0, op, (r + 1) % 6, r, 0, 1);
            }
        }
    }

    private static void operands() {
        checks.sentence("(X: s -1 with n 0 .. 65535, too; conditions: s is not d)");
        for (int op = 0; op <= 29; op++) {
            if (!takesX(op)) continue;
            for (int n : new int[] {0, 1, 65534, 65535}) codeIs(0, op, 0, -1, n, 1);
            for (int n : new int[] {LOW, -2, -1, 65536, 65537, FAR}) {
                codeIs(BAD, op, 0, -1, n, 1);
                codeIs(0, op, 0, 1, n, 1);
            }
            for (int r = 0; r <= 5; r++) codeIs(isCondition(op) ? BAD : 0, op, r, r, 0, 1);
        }
        for (int op : new int[] {Ops.MOVE, Ops.LOAD, Ops.LOAD2, Ops.STORE, Ops.STORE2}) {
            for (int r = 0; r <= 5; r++) codeIs(0, op, r, r, 0, 1);
        }
    }

    private static void constants() {
        checks.sentence("n 0 .. 65535 (SET)");
        for (int n : new int[] {0, 1, 65534, 65535}) codeIs(0, Ops.SET, 0, 0, n, 0);
        for (int n : new int[] {LOW, -1, 65536, FAR}) codeIs(BAD, Ops.SET, 0, 0, n, 0);

        checks.sentence("0 .. 255 (LOAD, STORE)");
        for (int op : new int[] {Ops.LOAD, Ops.STORE}) {
            for (int n : new int[] {0, 1, 254, 255}) codeIs(0, op, 0, 1, n, 0);
            for (int n : new int[] {LOW, -1, 256, 65535, FAR}) codeIs(BAD, op, 0, 1, n, 0);
        }
        checks.sentence("n is 0 .. 255 for LOAD2 and STORE2, too");
        for (int op : new int[] {Ops.LOAD2, Ops.STORE2}) {
            for (int n : new int[] {0, 1, 254, 255}) codeIs(0, op, 0, 1, n, 0);
            for (int n : new int[] {LOW, -1, 256, 65535, FAR}) codeIs(BAD, op, 0, 1, n, 0);
        }
        checks.sentence("0 .. 3 (SAVE, BACK)");
        for (int op : new int[] {Ops.SAVE, Ops.BACK}) {
            for (int n = 0; n <= 3; n++) codeIs(0, op, 0, 1, n, 0);
            for (int n : new int[] {LOW, -1, 4, 5, FAR}) codeIs(BAD, op, 0, 1, n, 0);
        }
    }

    private static void targets() {
        checks.sentence("to above its own number, 31 at most.");
        for (int op = Ops.JUMP; op <= Ops.BITS; op++) {
            for (int own = 0; own <= 31; own++) {
                for (int to : new int[] {LOW, -1, 0, own - 1, own, own + 1, 30, 31, 32, 33, FAR}) {
                    PacketFilter x = new PacketFilter();
                    for (int k = 0; k < own; k++) x.code(Ops.SET, 0, 0, 0, 0);
                    checks.due("code " + op + " as " + own + " to " + to, x.code(op, 0, 1, 0, to), to > own && to <= 31 ? own : BAD);
                }
            }
        }
    }

    private static void full() {
        checks.sentence("FULL if there are 32, or 5 conditions and it is one.");
        for (int op = 0; op <= 29; op++) {
            PacketFilter x = new PacketFilter();
            for (int k = 0; k < 31; k++) checks.due("code", x.code(Ops.SET, 0, 0, 0, 0), k);
            boolean jumps = op >= Ops.JUMP && op <= Ops.BITS;
            checks.due("the 32nd is " + op, x.code(op, 0, 1, 0, 32), jumps ? BAD : 31);
            if (jumps) checks.due("the 32nd", x.code(Ops.SET, 0, 0, 0, 0), 31);
            checks.due("the 33rd is " + op, x.code(op, 0, 1, 0, 32), jumps ? BAD : FULL);
            checks.due("wipe", x.wipe(), 32);
        }
        for (int op = Ops.EQ; op <= Ops.BITS; op++) {
            for (int last = Ops.EQ; last <= Ops.BITS; last++) {
                PacketFilter x = new PacketFilter();
                for (int k = 0; k < 4; k++) x.code(op, 0, 1, 0, 31);
                checks.due("the fifth condition", x.code(last, 0, 1, 0, 31), 4);
                checks.due("the sixth condition", x.code(last, 0, 1, 0, 31), FULL);
                checks.due("the sixth condition", x.code(op, 0, -1, 0, 31), FULL);
            }
        }
        PacketFilter x = new PacketFilter();
        for (int k = 0; k < 5; k++) x.code(Ops.EQ, 0, 1, 0, 31);
        int number = 5;
        for (int op = 0; op <= 29; op++) {
            if (!isCondition(op)) checks.due("none is " + op, x.code(op, 0, 1, 0, 31), number++);
        }
    }

    private static void knownNoMore() {
        checks.sentence("What verify() found is known no more, unless it is refused.");
        for (int wrong = 0; wrong <= 1; wrong++) {
            PacketFilter x = Ops.with(Ops.i(Ops.SIZE), Ops.i(Ops.EQ, 0, -1, 3, 3), Ops.exit(), wrong == 1 ? Ops.move(0, 5) : Ops.exit());
            checks.due("verify", x.verify(), wrong);
            checks.due("BAD", x.code(30, 0, 0, 0, 0), BAD);
            checks.due("place", x.place(), wrong == 1 ? 3 : BAD);
            checks.due("bound", x.bound(3, 0, 1), 3);
            checks.due("decided", x.decided(1), 3);
            checks.due("run", x.run(), wrong == 1 ? BAD : 0);
            checks.due("code", x.code(Ops.EXIT, 0, 0, 0, 0), 4);
            checks.due("place", x.place(), BAD);
            checks.due("bound", x.bound(3, 0, 1), BAD);
            checks.due("bound", x.bound(0, 1, 0), BAD);
            checks.due("decided", x.decided(1), BAD);
            checks.due("run", x.run(), BAD);
            checks.due("verify", x.verify(), wrong);
            checks.due("bound", x.bound(3, 0, 1), 3);
        }
        PacketFilter x = new PacketFilter();
        for (int k = 0; k < 5; k++) x.code(Ops.GT, 1, 2, 0, 31);
        for (int k = 5; k < 31; k++) x.code(Ops.SET, 0, 0, 9, 0);
        checks.due("verify", x.verify(), 6);
        checks.due("a sixth condition", x.code(Ops.GT, 1, 2, 0, 31), BAD);
        checks.due("place", x.place(), 31);
        checks.due("decided", x.decided(4), 3);
        checks.due("the last one", x.code(Ops.JUMP, 0, 0, 0, 31), BAD);
        checks.due("place", x.place(), 31);
        checks.due("the last one", x.code(Ops.EXIT, 0, 0, 0, 0), 31);
        checks.due("place", x.place(), BAD);
        checks.due("verify", x.verify(), 1);
        checks.due("a 33rd", x.code(Ops.EXIT, 0, 0, 0, 0), FULL);
        checks.due("place", x.place(), 31);
    }

    // ---- Promise 3

    private static void wipe() {
        checks.sentence("Removes all instructions: how many there were; what was found is known no more.");
        for (int count = 0; count <= 32; count++) {
            PacketFilter x = new PacketFilter();
            for (int k = 0; k < count; k++) x.code(Ops.SET, 0, 0, 0, 0);
            checks.due("verify", x.verify(), 6);
            checks.due("place", x.place(), count);
            checks.due("wipe", x.wipe(), count);
            checks.due("place", x.place(), BAD);
            checks.due("bound", x.bound(0, 1, 0), BAD);
            checks.due("decided", x.decided(0), BAD);
            checks.due("run", x.run(), BAD);
            checks.due("wipe", x.wipe(), 0);
            checks.due("verify", x.verify(), 6);
            checks.due("place", x.place(), 0);
        }
        // It leaves the packet, the entries and what ran() answers.
        PacketFilter x = Ops.with(Ops.set(0, 5), Ops.exit());
        x.put(7);
        x.enter(2, 3, 9);
        x.verify();
        x.run();
        checks.due("wipe", x.wipe(), 2);
        checks.due("packet", x.packet(0), 7);
        checks.due("entry", x.entry(2, 3), 9);
        checks.due("ran", x.ran(0), 2);
        checks.due("ran", x.ran(1), 1);
        checks.due("cut", x.cut(), 1);
        checks.due("drop", x.drop(2), true);
    }

    // ---- Promises 4 and 5

    private static void verify() {
        checks.sentence("0 if none is WRONG, and the program may be run");
        PacketFilter x = Ops.with(Ops.set(0, 5), Ops.exit());
        checks.due("run before", x.run(), BAD);
        checks.due("verify", x.verify(), 0);
        checks.due("run", x.run(), 5);
        checks.due("verify again", x.verify(), 0);
        checks.due("run again", x.run(), 5);
        // What no way comes to may be as it likes.
        x = Ops.with(Ops.set(0, 5), Ops.jump(4), Ops.move(0, 3), Ops.i(Ops.LOAD, 0, 1, 255), Ops.exit(), Ops.move(0, 4), Ops.set(3, 1));
        checks.due("verify", x.verify(), 0);
        checks.due("run", x.run(), 5);
        checks.due("ran", x.ran(0), 3);
    }

    private static void place() {
        checks.sentence("The number of the instruction with a WRONG way (for 6: where there is none)");
        for (int at = 0; at <= 32; at++) {
            PacketFilter x = new PacketFilter();
            for (int k = 0; k < at; k++) x.code(Ops.SET, 1, 0, 0, 0);
            if (at < 32) x.code(Ops.MOVE, 0, 5, 0, 0);
            checks.due("verify", x.verify(), at < 32 ? 1 : 6);
            checks.due("place", x.place(), at);
        }
        checks.sentence("found by the latest verify()");
        PacketFilter x = Ops.with(Ops.set(0, 0));
        checks.due("verify", x.verify(), 6);
        checks.due("place", x.place(), 1);
        Ops.append(x, Ops.move(0, 3));
        checks.due("verify", x.verify(), 1);
        checks.due("place", x.place(), 1);
        x.wipe();
        Ops.append(x, Ops.move(0, 1), Ops.set(4, 0), Ops.exit());
        checks.due("verify", x.verify(), 2);
        checks.due("place", x.place(), 2);
        checks.due("verify", x.verify(), 2);
        checks.due("place", x.place(), 2);

        checks.sentence("BAD if there was none since the latest change, or none was WRONG.");
        x = new PacketFilter();
        checks.due("no verify()", x.place(), BAD);
        checks.due("verify", x.verify(), 6);
        checks.due("place", x.place(), 0);
        checks.due("code", x.code(Ops.SET, 0, 0, 0, 0), 0);
        checks.due("after a change", x.place(), BAD);
        checks.due("verify", x.verify(), 6);
        checks.due("place", x.place(), 1);
        checks.due("place again", x.place(), 1);
        checks.due("wipe", x.wipe(), 1);
        checks.due("after a change", x.place(), BAD);
        Ops.append(x, Ops.set(0, 0), Ops.exit());
        checks.due("verify", x.verify(), 0);
        checks.due("none was WRONG", x.place(), BAD);
    }

    // ---- Promise 6

    private static void bound() {
        checks.sentence("BAD if i or such a way is none, verify() was not called since the latest change");
        PacketFilter x = Ops.with(Ops.set(0, 4), Ops.jump(3), Ops.set(0, 9), Ops.exit(), Ops.exit());
        checks.due("no verify()", x.bound(0, 1, 0), BAD);
        checks.due("verify", x.verify(), 0);
        for (int i : new int[] {LOW, -2, -1, 5, 6, 31, 32, 33, FAR}) checks.due("no instruction", x.bound(i, 1, 0), BAD);
        for (int i : new int[] {0, 1, 3}) checks.due("an instruction", x.bound(i, 1, 0), 2);
        for (int i : new int[] {2, 4}) {
            for (int r = 0; r < 10; r++) {
                for (int what = 0; what <= 3; what++) checks.due("no way", x.bound(i, r, what), BAD);
            }
        }
        checks.sentence("for others, and for 1 to 3 if the KIND is not 1.");
        for (int r : new int[] {LOW, -2, -1, 10, 11, FAR}) {
            for (int what = 0; what <= 3; what++) checks.due("no register", x.bound(3, r, what), BAD);
        }
        for (int r = 0; r < 10; r++) {
            for (int what : new int[] {LOW, -2, -1, 4, 5, FAR}) checks.due("no such question", x.bound(3, r, what), BAD);
        }
        for (int r = 1; r < 10; r++) {
            checks.due("the kind of " + r, x.bound(3, r, 0), r == 1 ? 2 : r == 2 ? 3 : 0);
            for (int what = 1; what <= 3; what++) checks.due("no number in " + r, x.bound(3, r, what), BAD);
        }
        int[] want = {1, 4, 4, 2};
        for (int what = 0; what <= 3; what++) checks.due("a number", x.bound(3, 0, what), want[what]);

        checks.sentence("register r 0 .. 5, or slot r - 6");
        x = new PacketFilter();
        for (int slot = 0; slot < 4; slot++) Ops.append(x, Ops.set(0, 20 + slot), Ops.i(Ops.SAVE, 0, 0, slot));
        for (int r = 0; r < 6; r++) Ops.append(x, Ops.set(r, 14 + r));
        Ops.append(x, Ops.exit());
        checks.due("verify", x.verify(), 0);
        for (int r = 0; r < 10; r++) {
            checks.due("lo of " + r, x.bound(14, r, 1), 14 + r);
            checks.due("hi of " + r, x.bound(14, r, 2), 14 + r);
        }
    }

    private static void boundBeforeAnInstruction() {
        checks.sentence("Of what the ways that come to instruction i hold");
        // Not what they hold behind it.
        PacketFilter x = Ops.with(Ops.set(0, 4), Ops.set(0, 6), Ops.i(Ops.SAVE, 0, 0, 0), Ops.with(Ops.ADD, 0, 1), Ops.i(Ops.EQ, 0, -1, 7, 6), Ops.set(0, 8), Ops.exit());
        checks.due("verify", x.verify(), 0);
        int[] want = {BAD, 4, 6, 6, 7, BAD, 7};
        for (int i = 0; i <= 6; i++) {
            checks.due("lo at " + i, x.bound(i, 0, 1), want[i]);
            checks.due("hi at " + i, x.bound(i, 0, 2), want[i]);
        }
        checks.due("kind at 0", x.bound(0, 0, 0), 0);
        checks.due("kind at 5", x.bound(5, 0, 0), BAD);
        checks.due("the slot before SAVE", x.bound(2, 6, 0), 0);
        checks.due("the slot after SAVE", x.bound(3, 6, 0), 1);
    }

    private static void boundOfSeveralWays() {
        checks.sentence("what 0: the KIND, 6 if they differ; 1, 2: the least lo and the greatest hi; 3: the least z.");
        // At 6 the way that jumps has the first number in 5, the one that stays the second.
        for (int[] each : new int[][] {{0, 8, 0, 8, 3}, {8, 0, 0, 8, 3}, {8, 8, 8, 8, 3}, {8, 16, 8, 16, 3}, {7, 8, 7, 8, 0}, {65535, 0, 0, 65535, 0}}) {
            PacketFilter x = Ops.with(Ops.i(Ops.SIZE), Ops.i(Ops.EQ, 0, -1, 16, 4), Ops.set(5, each[1]), Ops.jump(5), Ops.set(5, each[0]), Ops.exit());
            checks.due("verify", x.verify(), 0);
            checks.due("the same kind", x.bound(5, 5, 0), 1);
            for (int what = 1; what <= 3; what++) checks.due(each[0] + " and " + each[1], x.bound(5, 5, what), each[what + 1]);
        }
        // Of both ways the ends and z of a range, whichever comes first: 4 .. 12 of 4 and 8 .. 16 of 8, or one within the other.
        for (int[] each : new int[][] {{4, 12, 2, 8, 16, 3}, {8, 16, 3, 4, 12, 2}, {1, 9, 0, 2, 4, 1}, {2, 4, 1, 1, 9, 0}}) {
            PacketFilter x = Ops.with(Ops.i(Ops.SIZE), Ops.i(Ops.EQ, 0, -1, 16, 8));
            range(x, each[0], each[1], each[2]);
            Ops.append(x, Ops.jump(13));
            range(x, each[3], each[4], each[5]);
            Ops.append(x, Ops.exit());
            checks.due("verify", x.verify(), 0);
            checks.due("lo", x.bound(13, 0, 1), Math.min(each[0], each[3]));
            checks.due("hi", x.bound(13, 0, 2), Math.max(each[1], each[4]));
            checks.due("z", x.bound(13, 0, 3), Math.min(each[2], each[5]));
        }
        int[][] contents = {Ops.set(0, 0), Ops.set(5, 3), Ops.i(Ops.BACK, 5, 0, 0), Ops.i(Ops.BACK, 5, 0, 1), Ops.i(Ops.BACK, 5, 0, 3), Ops.i(Ops.BACK, 5, 0, 2)};
        for (int a = 0; a < 6; a++) {
            for (int b = 0; b < 6; b++) {
                PacketFilter x = Ops.with(Ops.i(Ops.SAVE, 1, 0, 0), Ops.i(Ops.SAVE, 2, 0, 1), Ops.set(1, 1), Ops.i(Ops.FIND), Ops.i(Ops.SAVE, 0, 0, 2),
                    Ops.set(1, 1), Ops.i(Ops.FIND), Ops.i(Ops.NE, 0, -1, 0, 9), Ops.exit(), Ops.i(Ops.SAVE, 0, 0, 3), Ops.i(Ops.SIZE),
                    Ops.i(Ops.EQ, 0, -1, 16, 14), contents[a], Ops.jump(15), contents[b], Ops.set(0, 0), Ops.exit());
                checks.due("verify", x.verify(), 0);
                checks.due("kinds " + a + " and " + b, x.bound(15, 5, 0), a == b ? a : 6);
                for (int what = 1; what <= 3; what++) {
                    int want = a == 1 && b == 1 ? what == 3 ? 0 : 3 : BAD;
                    checks.due("kinds " + a + " and " + b, x.bound(15, 5, what), want);
                }
            }
        }
    }

    /** Register 0 gets this range in five instructions: how many steps of 2^z it has, shifted, on from its lo. */
    private static void range(PacketFilter x, int lo, int hi, int z) {
        int steps = hi - lo >> z;
        Ops.append(x, Ops.i(Ops.SIZE), Ops.with(Ops.AND, 0, steps), Ops.with(Ops.LEFT, 0, z), Ops.with(Ops.ADD, 0, lo), Ops.set(4, 0));
    }

    private static void boundAndPlace() {
        checks.sentence("i is above place() (if something was WRONG)");
        // One way comes to 3 and goes on to 5, the other is WRONG at 4.
        PacketFilter x = Ops.with(Ops.i(Ops.SIZE), Ops.i(Ops.EQ, 0, -1, 3, 5), Ops.set(4, 1), Ops.set(4, 2), Ops.move(5, 3), Ops.exit());
        checks.due("verify", x.verify(), 1);
        checks.due("place", x.place(), 4);
        for (int i = 0; i <= 5; i++) checks.due("bound of " + i, x.bound(i, 5, 0), i <= 4 ? 0 : BAD);
        checks.due("below", x.bound(3, 4, 1), 1);
        checks.due("there", x.bound(4, 4, 1), 2);
        checks.due("above", x.bound(5, 0, 1), BAD);
        // All ways that come there count, of which one is WRONG.
        x = Ops.with(Ops.i(Ops.SIZE), Ops.set(4, 8), Ops.i(Ops.EQ, 0, -1, 3, 5), Ops.set(5, 1), Ops.set(4, 1), Ops.move(0, 5), Ops.exit());
        checks.due("verify", x.verify(), 1);
        checks.due("place", x.place(), 5);
        checks.due("lo", x.bound(5, 4, 1), 1);
        checks.due("hi", x.bound(5, 4, 2), 8);
        checks.due("z", x.bound(5, 4, 3), 0);
        checks.due("kinds", x.bound(5, 5, 0), 6);
        // Where there is no instruction there is nothing to tell.
        x = Ops.with(Ops.set(0, 1));
        checks.due("verify", x.verify(), 6);
        checks.due("place", x.place(), 1);
        checks.due("at place()", x.bound(1, 0, 0), BAD);
        checks.due("below", x.bound(0, 1, 0), 2);
    }

    // ---- Promise 7

    private static void decided() {
        checks.sentence("Of a CONDITION 0: no way comes to it; 1: all jump; 2: none jumps; 3: some jump, some don't.");
        for (int op = Ops.EQ; op <= Ops.BITS; op++) {
            PacketFilter x = Ops.with(Ops.set(0, 1), Ops.jump(3), Ops.i(op, 0, -1, 1, 3), Ops.exit());
            checks.due("verify", x.verify(), 0);
            checks.due("no way to " + op, x.decided(2), 0);
            boolean[] oneAndOne = {true, false, false, true, false, true, true};
            x = Ops.with(Ops.set(0, 1), Ops.i(op, 0, -1, 1, 2), Ops.exit());
            checks.due("verify", x.verify(), 0);
            checks.due("1 and 1 by " + op, x.decided(1), oneAndOne[op - Ops.EQ] ? 1 : 2);
            x = Ops.with(Ops.i(Ops.SIZE), Ops.i(op, 0, -1, 1, 2), Ops.exit());
            checks.due("verify", x.verify(), 0);
            checks.due("some jump by " + op, x.decided(1), 3);
            // The way that jumped first has 1, the other one 2: one of them always jumps, the other one never does, or both do the same.
            boolean[] twoAndOne = {false, true, false, false, true, true, false};
            x = Ops.with(Ops.i(Ops.SIZE), Ops.set(5, 1), Ops.i(Ops.EQ, 0, -1, 9, 4), Ops.set(5, 2), Ops.i(op, 5, -1, 1, 5), Ops.exit());
            checks.due("verify", x.verify(), 0);
            int want = (oneAndOne[op - Ops.EQ] || twoAndOne[op - Ops.EQ] ? 1 : 0) + (oneAndOne[op - Ops.EQ] && twoAndOne[op - Ops.EQ] ? 0 : 2);
            checks.due("two ways by " + op, x.decided(4), want);
        }
    }

    private static void decidedAndPlace() {
        checks.sentence("BAD if i is none, is not below place() (if something was WRONG), or verify() was not called since the latest change.");
        PacketFilter x = Ops.with(Ops.i(Ops.SIZE), Ops.i(Ops.EQ, 0, -1, 1, 5), Ops.i(Ops.EQ, 0, -1, 2, 5), Ops.i(Ops.EQ, 4, -1, 1, 5), Ops.i(Ops.EQ, 0, -1, 3, 5),
            Ops.exit());
        checks.due("no verify()", x.decided(1), BAD);
        checks.due("verify", x.verify(), 1);
        checks.due("place", x.place(), 3);
        int[] want = {BAD, 3, 3, BAD, BAD, BAD};
        for (int i = 0; i <= 5; i++) checks.due("decided " + i, x.decided(i), want[i]);
        for (int i : new int[] {LOW, -2, -1, 6, 31, 32, 33, FAR}) checks.due("no instruction", x.decided(i), BAD);
        checks.due("code", x.code(Ops.EXIT, 0, 0, 0, 0), 6);
        checks.due("after a change", x.decided(1), BAD);
        for (int op = 0; op <= 29; op++) {
            if (isCondition(op)) continue;
            x = Ops.with(Ops.set(0, 0), Ops.jump(3), Ops.i(op, 0, 1, 0, 3), Ops.exit());
            checks.due("verify", x.verify(), 0);
            checks.due(op + " is no condition", x.decided(2), BAD);
        }
        // A condition at 30, the last that can be one.
        x = new PacketFilter();
        for (int k = 0; k < 30; k++) x.code(Ops.SET, 0, 0, k, 0);
        checks.due("code", x.code(Ops.EQ, 0, -1, 29, 31), 30);
        checks.due("code", x.code(Ops.EXIT, 0, 0, 0, 0), 31);
        checks.due("verify", x.verify(), 0);
        checks.due("the last condition", x.decided(30), 1);
        checks.due("the last instruction", x.decided(31), BAD);
    }

    // ---- Promises 8 to 10

    private static final int[][] BYTES = {{0, 0}, {1, 1}, {127, 127}, {128, 128}, {255, 255}, {256, 0}, {257, 1}, {65535, 255}, {-1, 255}, {-256, 0}, {-255, 1},
        {FAR, 255}, {LOW, 0}, {LOW + 128, 128}};

    private static void put() {
        checks.sentence("Appends a byte (the lowest 8 bits) to the packet: how many there are");
        for (int[] each : BYTES) {
            PacketFilter x = new PacketFilter();
            checks.due("put " + each[0], x.put(each[0]), 1);
            checks.due("put " + each[0], x.packet(0), each[1]);
            checks.due("put a second one", x.put(each[0]), 2);
            checks.due("put a second one", x.packet(1), each[1]);
        }
        checks.sentence("FULL if there are 16.");
        PacketFilter x = new PacketFilter();
        for (int k = 1; k <= 16; k++) checks.due("put", x.put(k), k);
        for (int v : new int[] {17, 0, -1}) checks.due("the 17th", x.put(v), FULL);
        for (int k = 0; k < 16; k++) checks.due("packet", x.packet(k), k + 1);
        checks.due("there are 16 still", x.cut(), 16);
        checks.due("and room again", x.put(9), 1);
    }

    private static void cut() {
        checks.sentence("Empties the packet: how many bytes it had.");
        for (int length = 0; length <= 16; length++) {
            PacketFilter x = new PacketFilter();
            for (int k = 0; k < length; k++) x.put(k);
            checks.due("cut", x.cut(), length);
            for (int k = 0; k < 16; k++) checks.due("packet", x.packet(k), BAD);
            checks.due("cut again", x.cut(), 0);
            checks.due("put", x.put(5), 1);
            checks.due("packet", x.packet(0), 5);
            checks.due("packet", x.packet(1), BAD);
        }
    }

    private static void packet() {
        checks.sentence("Byte k of the packet; BAD if there is none.");
        PacketFilter x = new PacketFilter();
        for (int length = 0; length <= 16; length++) {
            for (int k = 0; k <= 16; k++) checks.due("byte " + k + " of " + length, x.packet(k), k < length ? 100 + k : BAD);
            for (int k : new int[] {LOW, -1, 17, FAR}) checks.due("byte " + k + " of " + length, x.packet(k), BAD);
            x.put(100 + length);
        }
    }

    // ---- Promises 11 to 13

    private static void enter() {
        checks.sentence("Byte k of an entry becomes v (its lowest 8 bits)");
        for (int[] each : BYTES) {
            PacketFilter x = new PacketFilter();
            checks.due("enter " + each[0], x.enter(7, 7, each[0]), true);
            checks.due("enter " + each[0], x.entry(7, 7), each[1]);
        }
        checks.sentence("if it is not there it is then, with all other bytes 0. True");
        for (int e = 0; e < 8; e++) {
            for (int k = 0; k < 8; k++) {
                PacketFilter x = new PacketFilter();
                // It was there before, with other bytes.
                for (int b = 0; b < 8; b++) x.enter(e, b, 90 + b);
                x.drop(e);
                checks.due("enter", x.enter(e, k, 0), true);
                for (int b = 0; b < 8; b++) checks.due("a byte of " + e, x.entry(e, b), 0);
                checks.due("enter", x.enter(e, k, 33), true);
                checks.due("enter", x.enter(e, 7 - k, 44), true);
                for (int b = 0; b < 8; b++) checks.due("a byte of " + e, x.entry(e, b), b == k ? 33 : b == 7 - k ? 44 : 0);
                for (int other = 0; other < 8; other++) checks.due("another entry", x.entry(other, k), other == e ? 33 : BAD);
            }
        }
        checks.sentence("false if there is no such entry or byte.");
        for (int e : new int[] {LOW, -1, 0, 7, 8, 9, FAR}) {
            for (int k : new int[] {LOW, -1, 0, 7, 8, 9, FAR}) {
                PacketFilter x = new PacketFilter();
                boolean good = e >= 0 && e <= 7 && k >= 0 && k <= 7;
                checks.due("enter(" + e + ", " + k + ")", x.enter(e, k, 5), good);
                for (int other = 0; other < 8; other++) checks.due("entry " + other, x.entry(other, 0), good && other == e ? k == 0 ? 5 : 0 : BAD);
            }
        }
    }

    private static void drop() {
        checks.sentence("An entry is not there any more: true; false if it was not.");
        for (int e = 0; e < 8; e++) {
            PacketFilter x = new PacketFilter();
            checks.due("drop", x.drop(e), false);
            for (int other = 0; other < 8; other++) x.enter(other, 0, other);
            checks.due("drop", x.drop(e), true);
            for (int other = 0; other < 8; other++) checks.due("entry", x.entry(other, 0), other == e ? BAD : other);
            checks.due("drop again", x.drop(e), false);
        }
        for (int e : new int[] {LOW, -1, 8, 9, FAR}) {
            PacketFilter x = new PacketFilter();
            for (int other = 0; other < 8; other++) x.enter(other, 0, other);
            checks.due("drop " + e, x.drop(e), false);
            for (int other = 0; other < 8; other++) checks.due("entry", x.entry(other, 0), other);
        }
    }

    private static void entry() {
        checks.sentence("Byte k of an entry; BAD if there is none, or it is not there.");
        PacketFilter x = new PacketFilter();
        for (int k = 0; k < 8; k++) {
            x.enter(0, k, 10 + k);
            x.enter(7, k, 20 + k);
        }
        for (int k = 0; k < 8; k++) {
            checks.due("entry 0", x.entry(0, k), 10 + k);
            checks.due("entry 7", x.entry(7, k), 20 + k);
            checks.due("one that is not there", x.entry(1, k), BAD);
            checks.due("one that is not there", x.entry(6, k), BAD);
            for (int e : new int[] {LOW, -1, 8, FAR}) checks.due("entry " + e, x.entry(e, k), BAD);
        }
        for (int k : new int[] {LOW, -1, 8, 9, FAR}) {
            checks.due("byte " + k, x.entry(0, k), BAD);
            checks.due("byte " + k, x.entry(7, k), BAD);
        }
    }

    // ---- Promises 14 and 15

    private static void run() {
        checks.sentence("Runs the program: the number with which it exits.");
        for (int n : new int[] {0, 1, 255, 256, 32768, 65534, 65535}) {
            PacketFilter x = Ops.with(Ops.set(0, n), Ops.set(1, 7), Ops.exit());
            checks.due("verify", x.verify(), 0);
            checks.due("run", x.run(), n);
        }
        checks.sentence("BAD, and nothing changes, if verify() was not called since the latest change, or did not answer 0.");
        // The program counts entry 3's first byte up.
        PacketFilter x = Ops.with(Ops.set(1, 3), Ops.i(Ops.FIND), Ops.i(Ops.NE, 0, -1, 0, 4), Ops.exit(), Ops.move(4, 0), Ops.i(Ops.LOAD, 0, 4, 0),
            Ops.with(Ops.ADD, 0, 1), Ops.i(Ops.STORE, 4, 0, 0), Ops.exit());
        x.enter(3, 0, 254);
        checks.due("no verify()", x.run(), BAD);
        checks.due("nothing changes", x.entry(3, 0), 254);
        checks.due("nothing changes", x.ran(0), BAD);
        checks.due("verify", x.verify(), 0);
        checks.due("run", x.run(), 255);
        checks.due("entry", x.entry(3, 0), 255);
        checks.due("run", x.run(), 256);
        checks.due("entry", x.entry(3, 0), 0);
        checks.due("ran", x.ran(0), 8);
        checks.due("code", x.code(Ops.MOVE, 0, 3, 0, 0), 9);
        checks.due("after a change", x.run(), BAD);
        checks.due("nothing changes", x.entry(3, 0), 0);
        checks.due("nothing changes", x.ran(0), 8);
        checks.due("verify", x.verify(), 0);
        checks.due("run", x.run(), 1);
        checks.due("wipe", x.wipe(), 10);
        checks.due("no program", x.run(), BAD);
        checks.due("no program is WRONG, too", x.verify(), 6);
        checks.due("did not answer 0", x.run(), BAD);
        Ops.append(x, Ops.set(1, 3), Ops.i(Ops.FIND), Ops.i(Ops.STORE, 0, 5, 0));
        checks.due("verify", x.verify(), 1);
        checks.due("did not answer 0", x.run(), BAD);
        checks.due("nothing changes", x.entry(3, 0), 1);
        checks.due("nothing changes", x.ran(0), 8);
        checks.due("nothing changes", x.ran(1), 8);
    }

    private static void ran() {
        checks.sentence("Of the latest run (that was not BAD) what 0: how many instructions were done; 1: which one was the last");
        for (int last = 1; last <= 31; last++) {
            PacketFilter x = Ops.with(Ops.set(0, 0));
            for (int k = 1; k < last; k++) x.code(Ops.SET, 0, 0, k, 0);
            Ops.append(x, Ops.exit());
            checks.due("verify", x.verify(), 0);
            checks.due("run", x.run(), last - 1);
            checks.due("how many", x.ran(0), last + 1);
            checks.due("which one", x.ran(1), last);
        }
        // By the length of the packet one run is shorter than the other.
        PacketFilter x = Ops.with(Ops.i(Ops.SIZE), Ops.i(Ops.EQ, 0, -1, 1, 5), Ops.set(0, 1), Ops.set(0, 2), Ops.exit(), Ops.exit());
        checks.due("verify", x.verify(), 0);
        checks.due("run", x.run(), 2);
        checks.due("how many", x.ran(0), 5);
        checks.due("which one", x.ran(1), 4);
        x.put(1);
        checks.due("still of the latest run", x.ran(0), 5);
        checks.due("run", x.run(), 1);
        checks.due("how many", x.ran(0), 3);
        checks.due("which one", x.ran(1), 5);

        checks.sentence("BAD for others, or if there was none.");
        for (int what : new int[] {LOW, -2, -1, 2, 3, FAR}) checks.due("no such question", x.ran(what), BAD);
        x = Ops.with(Ops.set(0, 0), Ops.exit());
        for (int what = -1; what <= 2; what++) checks.due("no run", x.ran(what), BAD);
        checks.due("a BAD run", x.run(), BAD);
        for (int what = -1; what <= 2; what++) checks.due("no run", x.ran(what), BAD);
        checks.due("verify", x.verify(), 0);
        for (int what = -1; what <= 2; what++) checks.due("no run yet", x.ran(what), BAD);
        checks.due("run", x.run(), 0);
        checks.due("how many", x.ran(0), 2);
    }

    // ---- Promise 16

    private static void badBeforeFull() {
        checks.sentence("code: BAD is tested before FULL (so with 32 instructions a jump, for which no to is left, is BAD).");
        PacketFilter x = new PacketFilter();
        for (int k = 0; k < 5; k++) x.code(Ops.EQ, 0, 1, 0, 31);
        wrongConditions(x, 31);
        for (int k = 5; k < 32; k++) x.code(Ops.EXIT, 0, 0, 0, 0);
        for (int to = 0; to <= 33; to++) {
            for (int op = Ops.JUMP; op <= Ops.BITS; op++) checks.due(op + " to " + to, x.code(op, 0, 1, 0, to), BAD);
        }
        x = new PacketFilter();
        for (int k = 0; k < 32; k++) x.code(Ops.EXIT, 0, 0, 0, 0);
        int[][] bad = {{-1, 0, 0, 0}, {30, 0, 0, 0}, {Ops.SET, 6, 0, 0}, {Ops.SET, 0, 0, 65536}, {Ops.SET, 0, 0, -1}, {Ops.MOVE, 0, -1, 0}, {Ops.MOVE, 0, 6, 0},
            {Ops.ADD, -1, 0, 0}, {Ops.ADD, 0, -2, 0}, {Ops.ADD, 0, -1, 65536}, {Ops.LOAD, 0, 1, 256}, {Ops.STORE2, 0, 1, 256}, {Ops.SAVE, 0, 0, 4},
            {Ops.BACK, 0, 0, -1}, {Ops.BACK, 6, 0, 0}};
        for (int[] each : bad) checks.due("BAD of 33", x.code(each[0], each[1], each[2], each[3], 0), BAD);
        int[][] good = {{Ops.SET, 5, 0, 65535}, {Ops.MOVE, 0, 5, 0}, {Ops.ADD, 0, -1, 65535}, {Ops.LOAD, 0, 1, 255}, {Ops.STORE2, 0, 1, 255}, {Ops.SAVE, 0, 0, 3},
            {Ops.BACK, 5, 0, 0}, {Ops.FIND, 0, 0, 0}, {Ops.EXIT, 0, 0, 0}};
        for (int[] each : good) checks.due("FULL of 33", x.code(each[0], each[1], each[2], each[3], 0), FULL);
    }

    private static void wrongConditions(PacketFilter x, int to) {
        for (int op = Ops.EQ; op <= Ops.BITS; op++) {
            checks.due("a good one", x.code(op, 0, 1, 0, to), FULL);
            checks.due("d", x.code(op, 6, 1, 0, to), BAD);
            checks.due("s", x.code(op, 0, 6, 0, to), BAD);
            checks.due("s is d", x.code(op, 1, 1, 0, to), BAD);
            checks.due("n", x.code(op, 0, -1, 65536, to), BAD);
            checks.due("to", x.code(op, 0, 1, 0, 5), BAD);
            checks.due("to", x.code(op, 0, 1, 0, 6), FULL);
            checks.due("to", x.code(op, 0, 1, 0, 32), BAD);
        }
    }

    private static void notUsed() {
        checks.sentence("what an instruction does not use (n beside a register s, d, s and n of 18 to 21 and 29, and so on) may be any number.");
        for (int any : new int[] {LOW, -2, -1, 6, 32, 256, 65536, FAR}) {
            for (int op = 0; op <= 29; op++) {
                boolean jumps = op >= Ops.JUMP && op <= Ops.BITS;
                boolean usesN = op == Ops.SET || op >= Ops.LOAD && op <= Ops.BACK;
                if (!usesD(op)) codeIs(0, op, any, 1, 0, 1);
                if (!usesS(op) && !takesX(op)) codeIs(0, op, 0, any, 0, 1);
                if (!usesN) codeIs(0, op, 0, 1, any, 1);
                if (!jumps) codeIs(0, op, 0, 1, 0, any);
            }
            // And they do what they do without them.
            PacketFilter x = new PacketFilter();
            int[][] program = {{Ops.SET, 4, any, 3, any}, {Ops.MOVE, 5, 4, any, any}, {Ops.ADD, 4, 5, any, any}, {Ops.SAVE, 4, any, 2, any},
                {Ops.CLOCK, any, any, any, any}, {Ops.SIZE, any, any, any, any}, {Ops.MOVE, 1, 0, any, any}, {Ops.FIND, any, any, any, any},
                {Ops.JUMP, any, any, any, 9}, {Ops.BACK, 0, any, 2, any}, {Ops.NE, 0, 5, any, 11}, {Ops.EXIT, any, any, any, any}};
            for (int k = 0; k < program.length; k++) {
                checks.due("code", x.code(program[k][0], program[k][1], program[k][2], program[k][3], program[k][4]), k);
            }
            checks.due("verify", x.verify(), 0);
            checks.due("decided", x.decided(10), 1);
            checks.due("run", x.run(), 6);
            checks.due("ran", x.ran(0), 12);
        }
    }

    private static void changes() {
        checks.sentence("A change, after which verify() is to be called again, is code (not refused) or wipe (also of nothing), not put, cut, enter or drop");
        PacketFilter x = Ops.with(Ops.i(Ops.SIZE), Ops.i(Ops.EQ, 0, -1, 3, 2), Ops.exit());
        checks.due("verify", x.verify(), 0);
        checks.due("put", x.put(1), 1);
        stillKnown(x, 1);
        checks.due("cut", x.cut(), 1);
        stillKnown(x, 0);
        checks.due("enter", x.enter(0, 0, 0), true);
        stillKnown(x, 0);
        checks.due("drop", x.drop(0), true);
        stillKnown(x, 0);
        checks.due("code", x.code(Ops.EXIT, 0, 0, 0, 0), 3);
        checks.due("run", x.run(), BAD);
        checks.due("decided", x.decided(1), BAD);
        checks.due("bound", x.bound(2, 0, 2), BAD);
        x = new PacketFilter();
        checks.due("verify", x.verify(), 6);
        for (int k = 0; k <= 2; k++) checks.due("place", x.place(), 0);
        checks.due("put", x.put(1), 1);
        checks.due("cut", x.cut(), 1);
        checks.due("enter", x.enter(0, 0, 0), true);
        checks.due("drop", x.drop(0), true);
        checks.due("place", x.place(), 0);
        checks.due("wipe of nothing", x.wipe(), 0);
        checks.due("place", x.place(), BAD);

        checks.sentence("what ran answers stays with them all.");
        x = Ops.with(Ops.set(0, 0), Ops.set(0, 1), Ops.exit());
        x.verify();
        checks.due("run", x.run(), 1);
        x.put(1);
        ranStays(x, "put");
        x.cut();
        ranStays(x, "cut");
        x.enter(1, 1, 1);
        ranStays(x, "enter");
        x.drop(1);
        ranStays(x, "drop");
        x.code(Ops.SET, 0, 0, 0, 0);
        ranStays(x, "code");
        x.verify();
        ranStays(x, "verify");
        x.wipe();
        ranStays(x, "wipe");
        x.wipe();
        ranStays(x, "wipe of nothing");
        x.verify();
        ranStays(x, "verify of nothing");
    }

    private static void stillKnown(PacketFilter x, int size) {
        checks.due("place", x.place(), BAD);
        checks.due("bound", x.bound(2, 0, 2), 16);
        checks.due("decided", x.decided(1), 3);
        checks.due("run", x.run(), size);
    }

    private static void ranStays(PacketFilter x, String after) {
        checks.due("ran(0) after " + after, x.ran(0), 3);
        checks.due("ran(1) after " + after, x.ran(1), 2);
    }

    private static void lastCall() {
        checks.sentence("An object is used for at most 512 calls after it has been made");
        PacketFilter x = Ops.with(Ops.i(Ops.SIZE), Ops.exit());
        int calls = 2;
        while (calls < 506) {
            calls++;
            checks.due("call " + calls, x.put(calls), calls - 2 <= 16 ? calls - 2 : FULL);
        }
        checks.due("507", x.verify(), 0);
        checks.due("508", x.run(), 16);
        checks.due("509", x.packet(15), 18);
        checks.due("510", x.bound(1, 0, 2), 16);
        checks.due("511", x.cut(), 16);
        checks.due("512", x.run(), 0);
    }
}
