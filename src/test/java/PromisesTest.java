/** Each promise of the document: ordinary inputs, the edges it names, and wrong inputs. */
public final class PromisesTest {
    private static final int BAD = PacketFilter.BAD, FULL = PacketFilter.FULL;
    private static final int FAR = Integer.MAX_VALUE, LOW = Integer.MIN_VALUE;
    private static final Checks checks = new Checks();

    private static void due(String call, int got, int want) {
        checks.due(call, got, want);
    }

    private static void due(String call, boolean got, boolean want) {
        checks.due(call, got, want);
    }

    public static void main(String[] args) {
        newObject();
        codeOfEachForm();
        codeBeforeFull();
        codeAndJumps();
        wipe();
        oneProgramAfterTheOther();
        verifyAndPlace();
        bound();
        boundOfMixedWays();
        decided();
        packet();
        entries();
        runArithmetic();
        runMemory();
        runCalls();
        runConditions();
        runAndRan();
        changes();
        checks.end();
    }

    private static void newObject() {
        PacketFilter x = new PacketFilter();
        due("1 BAD", PacketFilter.BAD, -1);
        due("1 FULL", PacketFilter.FULL, -2);
        due("1 wipe", x.wipe(), 0);
        due("1 cut", x.cut(), 0);
        due("1 packet", x.packet(0), BAD);
        for (int e = 0; e < 8; e++) {
            due("1 entry", x.entry(e, 0), BAD);
            due("1 drop", x.drop(e), false);
        }
        due("1 ran 0", x.ran(0), BAD);
        due("1 ran 1", x.ran(1), BAD);
        due("1 run", x.run(), BAD);
        due("1 place", x.place(), BAD);
        due("1 bound", x.bound(0, 1, 0), BAD);
        due("1 decided", x.decided(0), BAD);
        due("1 verify", x.verify(), 6);
    }

    /** The answer of code on a new object, on which each instruction would have the number 0. */
    private static void codeIs(int want, int op, int d, int s, int n, int to) {
        due("2 code(" + op + ", " + d + ", " + s + ", " + n + ", " + to + ")", new PacketFilter().code(op, d, s, n, to), want);
    }

    private static void codeOfEachForm() {
        for (int op : new int[] {-1, 30, FAR, LOW}) codeIs(BAD, op, 0, 1, 0, 1);
        for (int op = 0; op <= 29; op++) {
            codeIs(0, op, 0, 1, 0, 1);
            codeIs(0, op, 5, 0, 3, 31);
            boolean usesD = op <= 17 || op >= 22 && op <= 28;
            boolean takesX = op >= 2 && op <= 11 || op >= 22 && op <= 28;
            boolean usesS = op == 1 || op >= 12 && op <= 15;
            boolean jumps = op >= 21 && op <= 28;
            for (int d : new int[] {-1, 6, FAR, LOW}) codeIs(usesD ? BAD : 0, op, d, 1, 0, 1);
            for (int s : new int[] {6, -2, FAR, LOW}) codeIs(takesX || usesS ? BAD : 0, op, 0, s, 0, 1);
            codeIs(usesS ? BAD : 0, op, 0, -1, 0, 1);
            for (int to : new int[] {-1, 0, 32, FAR, LOW}) codeIs(jumps ? BAD : 0, op, 0, 1, 0, to);
            int top = op == 0 ? 65535 : op >= 12 && op <= 15 ? 255 : op == 16 || op == 17 ? 3 : FAR;
            codeIs(0, op, 0, 1, top, 1);
            codeIs(top == FAR ? 0 : BAD, op, 0, 1, top + 1, 1);
            codeIs(top == FAR ? 0 : BAD, op, 0, 1, -1, 1);
            if (takesX) {
                codeIs(0, op, 0, -1, 65535, 1);
                codeIs(BAD, op, 0, -1, 65536, 1);
                codeIs(BAD, op, 0, -1, -1, 1);
                codeIs(op >= 22 ? BAD : 0, op, 3, 3, 0, 1);
            }
        }
    }

    private static void codeBeforeFull() {
        PacketFilter x = new PacketFilter();
        for (int k = 0; k < 5; k++) due("2 condition", x.code(22 + k, 0, -1, 1, 31), k);
        for (int op = 22; op <= 28; op++) {
            due("2 sixth condition", x.code(op, 0, -1, 1, 31), FULL);
            due("16 BAD before FULL", x.code(op, 0, -1, 65536, 31), BAD);
            due("16 BAD before FULL", x.code(op, 0, -1, 1, 5), BAD);
            due("16 BAD before FULL", x.code(op, 4, 4, 1, 31), BAD);
        }
        due("2 a jump is no condition", x.code(21, 0, 0, 0, 31), 5);
        for (int k = 6; k < 32; k++) due("2 code", x.code(29, FAR, LOW, FAR, LOW), k);
        due("2 33rd", x.code(29, 0, 0, 0, 0), FULL);
        due("2 33rd", x.code(0, 0, 0, 0, 0), FULL);
        due("16 33rd, BAD", x.code(0, 6, 0, 0, 0), BAD);
        due("16 33rd, BAD", x.code(30, 0, 0, 0, 0), BAD);
        for (int to = 30; to <= 34; to++) {
            due("16 33rd, a jump", x.code(21, 0, 0, 0, to), BAD);
            due("16 33rd, a condition", x.code(22, 0, -1, 0, to), BAD);
        }
        due("3 wipe", x.wipe(), 32);
        for (int k = 0; k < 5; k++) due("3 conditions are wiped, too", x.code(22, 0, -1, 1, 31), k);
        due("2 sixth condition", x.code(22, 0, -1, 1, 31), FULL);
    }

    private static void codeAndJumps() {
        PacketFilter x = new PacketFilter();
        for (int k = 0; k < 31; k++) {
            due("2 to itself", x.code(21, 0, 0, 0, k), BAD);
            due("2 back", x.code(21, 0, 0, 0, k - 1), BAD);
            due("2 to the next", x.code(21, 0, 0, 0, k + 1), k);
        }
        due("2 last: to 31", x.code(21, 0, 0, 0, 31), BAD);
        due("2 last: to 32", x.code(21, 0, 0, 0, 32), BAD);
        due("2 last", x.code(19, 0, 0, 0, 0), 31);
        due("4 no end", x.verify(), 6);
        due("5 behind the last", x.place(), 32);
        due("6 all before it", x.bound(31, 1, 0), 2);
        due("6 there is none", x.bound(32, 1, 0), BAD);
    }

    private static void wipe() {
        PacketFilter x = Ops.with(Ops.set(0, 1), Ops.exit());
        due("3 verify", x.verify(), 0);
        due("3 wipe", x.wipe(), 2);
        due("3 known no more", x.place(), BAD);
        due("3 known no more", x.bound(0, 1, 0), BAD);
        due("3 run", x.run(), BAD);
        due("3 again", x.wipe(), 0);
        due("3 number", x.code(29, 0, 0, 0, 0), 0);
        due("3 verify", x.verify(), 1);
    }

    /** Nothing of what was found for one program is left for the next. */
    private static void oneProgramAfterTheOther() {
        PacketFilter x = Ops.with(Ops.move(0, 1), Ops.with(Ops.ADD, 0, 4), Ops.i(Ops.GT, 0, 2, 0, 5), Ops.i(Ops.LOAD, 0, 1, 3), Ops.exit(), Ops.set(0, 1), Ops.exit());
        due("3 first", x.verify(), 0);
        due("3 first", x.decided(2), 3);
        due("3 first", x.bound(5, 0, 0), 2);
        x.wipe();
        Ops.append(x, Ops.set(0, 1), Ops.move(4, 1), Ops.i(Ops.EQ, 0, -1, 1, 4), Ops.exit(), Ops.jump(6), Ops.exit(), Ops.i(Ops.LOAD, 0, 1, 0));
        due("3 second", x.verify(), 4);
        due("3 second", x.place(), 6);
        due("3 second", x.decided(2), 1);
        due("3 second", x.bound(5, 0, 0), BAD);
        due("3 second", x.bound(0, 0, 0), 0);
        x.wipe();
        Ops.append(x, Ops.set(0, 1), Ops.jump(3), Ops.i(Ops.EQ, 0, -1, 1, 3), Ops.exit());
        due("3 third", x.verify(), 0);
        due("3 third", x.decided(2), 0);
        due("3 third", x.bound(2, 0, 0), BAD);
        due("3 third", x.bound(3, 4, 0), 0);

        // The packet's first place had instruction 2 as its origin; in the next program another place has.
        x = Ops.with(Ops.set(0, 3), Ops.move(4, 1), Ops.i(Ops.ADD, 1, 0), Ops.exit());
        due("3 an origin", x.verify(), 0);
        x.wipe();
        Ops.append(x, Ops.set(0, 3), Ops.move(4, 1), Ops.i(Ops.ADD, 4, 0), Ops.i(Ops.GE, 4, 2, 0, 6), Ops.i(Ops.LOAD, 0, 4, 0), Ops.i(Ops.LOAD, 0, 1, 0), Ops.exit());
        due("3 no such origin", x.verify(), 4);
        due("3 no such origin", x.place(), 5);
    }

    private static void verifyAndPlace() {
        PacketFilter x = new PacketFilter();
        due("5 before verify", x.place(), BAD);
        due("4 nothing", x.verify(), 6);
        due("5 nothing", x.place(), 0);
        Ops.append(x, Ops.set(0, 1), Ops.exit());
        due("5 after a change", x.place(), BAD);
        due("4 well", x.verify(), 0);
        due("4 again", x.verify(), 0);
        due("5 none wrong", x.place(), BAD);

        // The way that does not jump comes to 3, where register 5 is UNSET.
        x = Ops.with(Ops.i(19), Ops.i(Ops.EQ, 0, -1, 3, 4), Ops.set(4, 2), Ops.i(Ops.LOAD, 0, 5, 0), Ops.exit());
        due("4 unset", x.verify(), 1);
        due("5 unset", x.place(), 3);
        due("6 at place", x.bound(3, 4, 1), 2);
        due("6 above place", x.bound(4, 4, 0), BAD);
        due("7 below place", x.decided(1), 3);

        // The way on which nothing is in the slot always passes over 5, which reads it.
        x = Ops.with(Ops.i(19), Ops.move(4, 0), Ops.i(Ops.EQ, 0, -1, 3, 4), Ops.i(Ops.SAVE, 4, 0, 1),
            Ops.i(Ops.EQ, 0, -1, 3, 6), Ops.i(Ops.BACK, 4, 0, 1), Ops.exit());
        due("4 no way without the slot", x.verify(), 0);
        x = Ops.with(Ops.set(5, 1), Ops.move(0, 1), Ops.i(Ops.EQ, 5, -1, 1, 4), Ops.set(0, 1), Ops.exit());
        due("4 kind of register 0", x.verify(), 2);
        due("5 kind of register 0", x.place(), 4);
        x = Ops.with(Ops.move(5, 1), Ops.i(19), Ops.move(4, 0), Ops.move(0, 5), Ops.i(Ops.EQ, 4, -1, 1, 6), Ops.i(21, 0, 0, 0, 7),
            Ops.i(Ops.SAVE, 5, 0, 0), Ops.i(Ops.BACK, 3, 0, 0), Ops.exit());
        due("4 unset on one way", x.verify(), 1);
        due("5 unset on one way", x.place(), 7);
        leastOfTwoWays();
        leastInstruction();
        missingInstruction();
    }

    private static void leastOfTwoWays() {
        // At 6 register 4 is UNSET on the way that falls through, and PACKET on the one that jumps, and it is to be a number.
        PacketFilter x = Ops.with(Ops.move(5, 1), Ops.i(Ops.SAVE, 1, 0, 0), Ops.i(19), Ops.i(Ops.EQ, 0, -1, 1, 5), Ops.jump(6),
            Ops.i(Ops.BACK, 4, 0, 0), Ops.with(Ops.MUL, 4, 2), Ops.exit());
        due("4 the least of 1 and 2", x.verify(), 1);
        due("5 the least of 1 and 2", x.place(), 6);
        due("6 kinds differ", x.bound(6, 4, 0), 6);
        due("6 no range then", x.bound(6, 4, 1), BAD);
    }

    private static void leastInstruction() {
        // WRONG 5 at 4 by one way, WRONG 1 at 5 by the other: the least instruction counts first.
        PacketFilter x = Ops.with(Ops.move(4, 1), Ops.with(Ops.ADD, 4, 3), Ops.i(Ops.LE, 4, 2, 0, 4), Ops.jump(5),
            Ops.i(Ops.LOAD2, 0, 1, 1), Ops.exit());
        due("4 the least instruction", x.verify(), 5);
        due("5 the least instruction", x.place(), 4);
        due("6 not above it", x.bound(5, 0, 0), BAD);
        due("6 below it", x.bound(3, 0, 0), 0);
    }

    private static void missingInstruction() {
        PacketFilter x = Ops.with(Ops.jump(31));
        due("4 none there", x.verify(), 6);
        due("5 none there", x.place(), 31);
        x = Ops.with(Ops.i(19), Ops.i(Ops.EQ, 0, -1, 1, 20), Ops.set(0, 1));
        due("4 none there", x.verify(), 6);
        due("5 the least", x.place(), 3);
        due("7 the way before it", x.decided(1), 3);
        x = Ops.with(Ops.i(19), Ops.i(Ops.EQ, 0, -1, 17, 20), Ops.exit());
        due("4 none comes there", x.verify(), 0);
        x = Ops.with(Ops.i(19), Ops.i(Ops.EQ, 0, -1, 16, 20), Ops.exit());
        due("4 one comes there", x.verify(), 6);
        due("5 one comes there", x.place(), 20);
    }

    private static void bound() {
        PacketFilter x = Ops.with(Ops.i(19), Ops.with(Ops.MUL, 0, 4), Ops.i(Ops.SAVE, 0, 0, 3), Ops.jump(5), Ops.set(0, 1), Ops.exit());
        due("6 before verify", x.bound(0, 1, 0), BAD);
        due("6 verify", x.verify(), 0);
        int[] kinds = {0, 2, 3, 0, 0, 0, 0, 0, 0, 0};
        for (int r = 0; r < 10; r++) {
            due("6 first kind of " + r, x.bound(0, r, 0), kinds[r]);
            for (int what = 1; what <= 3; what++) due("6 no number in " + r, x.bound(0, r, what), BAD);
        }
        for (int r : new int[] {0, 9}) {
            due("6 kind", x.bound(5, r, 0), 1);
            due("6 lo", x.bound(5, r, 1), 0);
            due("6 hi", x.bound(5, r, 2), 64);
            due("6 z", x.bound(5, r, 3), 2);
        }
        for (int what : new int[] {-1, 4, FAR, LOW}) due("6 what", x.bound(5, 0, what), BAD);
        for (int what : new int[] {-1, 4, FAR, LOW}) due("6 what", x.bound(5, 8, what), BAD);
        for (int r : new int[] {-1, 10, FAR, LOW}) due("6 r", x.bound(5, r, 0), BAD);
        for (int i : new int[] {-1, 6, 31, 32, FAR, LOW}) due("6 i", x.bound(i, 0, 0), BAD);
        due("6 after SIZE", x.bound(1, 1, 0), 0);
        due("6 after SIZE", x.bound(1, 2, 0), 0);
        due("6 no way", x.bound(4, 0, 0), BAD);
        due("6 refused code", x.code(30, 0, 0, 0, 0), BAD);
        due("6 still known", x.bound(5, 9, 2), 64);
        due("6 code", x.code(29, 0, 0, 0, 0), 6);
        due("6 known no more", x.bound(5, 9, 2), BAD);
    }

    private static void boundOfMixedWays() {
        PacketFilter x = Ops.with(Ops.move(4, 1), Ops.i(19), Ops.set(5, 12), Ops.i(Ops.LT, 0, -1, 3, 7), Ops.set(5, 40), Ops.set(4, 0),
            Ops.jump(7), Ops.exit());
        due("6 verify", x.verify(), 0);
        due("6 kinds differ", x.bound(7, 4, 0), 6);
        for (int what = 1; what <= 3; what++) due("6 kinds differ", x.bound(7, 4, what), BAD);
        due("6 the least lo", x.bound(7, 5, 1), 12);
        due("6 the greatest hi", x.bound(7, 5, 2), 40);
        due("6 the least z", x.bound(7, 5, 3), 2);
        due("6 one way", x.bound(4, 0, 1), 3);
        due("6 both ways", x.bound(7, 0, 1), 0);
        due("6 both ways", x.bound(7, 0, 2), 16);
    }

    private static void decided() {
        PacketFilter x = Ops.with(Ops.i(19), Ops.i(Ops.LE, 0, -1, 16, 3), Ops.i(Ops.EQ, 0, -1, 0, 3), Ops.i(Ops.GT, 0, -1, 16, 5),
            Ops.i(Ops.EQ, 0, -1, 9, 5), Ops.exit());
        due("7 before verify", x.decided(1), BAD);
        due("7 verify", x.verify(), 0);
        due("7 all jump", x.decided(1), 1);
        due("7 no way", x.decided(2), 0);
        due("7 none jumps", x.decided(3), 2);
        due("7 some jump", x.decided(4), 3);
        for (int i : new int[] {0, 5, 6, 31, 32, -1, FAR, LOW}) due("7 no condition", x.decided(i), BAD);
        due("7 wipe", x.wipe(), 6);
        due("7 after a change", x.decided(1), BAD);

        // At 4 one way always jumps and the other one never does.
        x = Ops.with(Ops.i(19), Ops.set(5, 1), Ops.i(Ops.LT, 0, -1, 3, 4), Ops.set(5, 2), Ops.i(Ops.EQ, 5, -1, 1, 5), Ops.exit());
        due("7 verify", x.verify(), 0);
        due("7 each way one side", x.decided(4), 3);

        x = Ops.with(Ops.i(19), Ops.i(Ops.EQ, 0, -1, 1, 2), Ops.i(Ops.EQ, 4, -1, 1, 3), Ops.i(Ops.EQ, 0, -1, 1, 4), Ops.exit());
        due("7 verify", x.verify(), 1);
        due("7 below place", x.decided(1), 3);
        due("7 at place", x.decided(2), BAD);
        due("7 above place", x.decided(3), BAD);
    }

    private static void packet() {
        PacketFilter x = new PacketFilter();
        for (int k = 0; k < 16; k++) due("8 put", x.put(250 + k), k + 1);
        due("8 full", x.put(1), FULL);
        for (int k = 0; k < 16; k++) due("10 packet", x.packet(k), 250 + k & 255);
        for (int k : new int[] {-1, 16, FAR, LOW}) due("10 none", x.packet(k), BAD);
        due("9 cut", x.cut(), 16);
        due("9 again", x.cut(), 0);
        due("10 after cut", x.packet(0), BAD);
        due("8 after cut", x.put(-1), 1);
        due("8 lowest bits", x.packet(0), 255);
        due("8 second", x.put(LOW + 7), 2);
        due("8 lowest bits", x.packet(1), 7);
        due("10 behind", x.packet(2), BAD);
        due("9 cut", x.cut(), 2);
    }

    private static void entries() {
        PacketFilter x = new PacketFilter();
        for (int e : new int[] {-1, 8, FAR, LOW}) {
            due("11 no such entry", x.enter(e, 0, 1), false);
            due("12 no such entry", x.drop(e), false);
            due("13 no such entry", x.entry(e, 0), BAD);
        }
        for (int k : new int[] {-1, 8, FAR, LOW}) {
            due("11 no such byte", x.enter(0, k, 1), false);
            due("13 no such byte", x.entry(0, k), BAD);
        }
        due("12 not there by a wrong enter", x.drop(0), false);
        for (int e = 0; e < 8; e++) {
            due("11 enter", x.enter(e, 7 - e, 256 + 10 * e + 1), true);
            for (int k = 0; k < 8; k++) due("13 entry", x.entry(e, k), k == 7 - e ? 10 * e + 1 : 0);
        }
        due("11 second byte", x.enter(3, 0, -2), true);
        due("13 second byte", x.entry(3, 0), 254);
        due("13 first byte stays", x.entry(3, 4), 31);
        due("13 no such byte", x.entry(3, 8), BAD);
        due("12 drop", x.drop(3), true);
        due("12 again", x.drop(3), false);
        due("13 not there", x.entry(3, 0), BAD);
        due("13 others are", x.entry(2, 5), 21);
        due("11 anew", x.enter(3, 1, 9), true);
        for (int k = 0; k < 8; k++) due("13 the others are 0", x.entry(3, k), k == 1 ? 9 : 0);
    }

    /** What a op b is when it runs, with b as a constant and as a register. */
    private static void runs(int op, int a, int b, int want) {
        PacketFilter x = Ops.with(Ops.set(0, a), Ops.with(op, 0, b), Ops.exit());
        String call = "14 " + a + " op " + op + " " + b;
        due(call, x.verify(), 0);
        due(call, x.bound(2, 0, 1), want);
        due(call, x.bound(2, 0, 2), want);
        due(call, x.run(), want);
        // By way of the packet, so that nothing is known of the numbers.
        x = Ops.with(Ops.move(4, 1), Ops.with(Ops.ADD, 4, 4), Ops.i(Ops.LE, 4, 2, 0, 5), Ops.set(0, 0), Ops.exit(),
            Ops.i(Ops.LOAD2, 0, 1, 0), Ops.i(Ops.LOAD2, 5, 1, 2), Ops.i(op, 0, 5), Ops.exit());
        for (int v : new int[] {a, a >> 8, b, b >> 8}) x.put(v);
        due(call, x.verify(), 0);
        due(call, x.run(), want);
        due(call, x.ran(0), 7);
    }

    private static void runArithmetic() {
        runs(Ops.ADD, 65535, 1, 0);
        runs(Ops.ADD, 40000, 40000, 14464);
        runs(Ops.SUB, 0, 1, 65535);
        runs(Ops.SUB, 500, 499, 1);
        runs(Ops.MUL, 65535, 65535, 1);
        runs(Ops.MUL, 300, 300, 24464);
        runs(Ops.DIV, 65535, 16, 4095);
        runs(Ops.DIV, 77, 0, 0);
        runs(Ops.MOD, 77, 10, 7);
        runs(Ops.MOD, 77, 0, 77);
        runs(Ops.AND, 0xF0F0, 0xFF00, 0xF000);
        runs(Ops.OR, 0xF0F0, 0xFF00, 0xFFF0);
        runs(Ops.XOR, 0xF0F0, 0xFF00, 0x0FF0);
        runs(Ops.LEFT, 0x8001, 1, 2);
        runs(Ops.LEFT, 1, 15, 32768);
        runs(Ops.LEFT, 1, 16, 0);
        runs(Ops.LEFT, 1, 32, 0);
        runs(Ops.LEFT, 1, 65535, 0);
        runs(Ops.RIGHT, 0x8001, 1, 0x4000);
        runs(Ops.RIGHT, 65535, 15, 1);
        runs(Ops.RIGHT, 65535, 16, 0);
        runs(Ops.RIGHT, 65535, 32, 0);
    }

    private static void runMemory() {
        // Packet: bytes 2 and 3 become 0xABCD, the lower one first, byte 5 the lowest byte of it; a word is read back.
        PacketFilter x = Ops.with(Ops.move(4, 1), Ops.with(Ops.ADD, 4, 6), Ops.i(Ops.GT, 4, 2, 0, 8), Ops.set(0, 0xABCD),
            Ops.i(Ops.STORE2, 1, 0, 2), Ops.with(Ops.SUB, 4, 2), Ops.i(Ops.STORE, 4, 0, 1), Ops.i(Ops.LOAD2, 0, 4, 0), Ops.exit());
        due("14 the way with a short packet", x.verify(), 1);
        Ops.append(x = new PacketFilter(), Ops.set(0, 7), Ops.move(4, 1), Ops.with(Ops.ADD, 4, 6), Ops.i(Ops.GT, 4, 2, 0, 9), Ops.set(0, 0xABCD),
            Ops.i(Ops.STORE2, 1, 0, 2), Ops.with(Ops.SUB, 4, 2), Ops.i(Ops.STORE, 4, 0, 1), Ops.i(Ops.LOAD2, 0, 4, 0), Ops.exit());
        due("14 verify", x.verify(), 0);
        for (int k = 1; k <= 5; k++) x.put(k);
        due("14 short", x.run(), 7);
        due("10 unchanged", x.packet(2), 3);
        x.put(6);
        due("14 run", x.run(), 0xCD05);
        int[] want = {1, 2, 0xCD, 0xAB, 5, 0xCD};
        for (int k = 0; k < 6; k++) due("10 byte " + k, x.packet(k), want[k]);

        // Entry 5: bytes 6 and 7 are written through a place moved there and back, by way of a slot.
        x = Ops.with(Ops.set(1, 5), Ops.i(Ops.FIND), Ops.i(Ops.SAVE, 0, 0, 2), Ops.i(Ops.NE, 0, -1, 0, 5), Ops.exit(),
            Ops.i(Ops.BACK, 4, 0, 2), Ops.set(5, 4), Ops.i(Ops.ADD, 4, 5), Ops.set(3, 0x1234), Ops.i(Ops.STORE2, 4, 3, 2),
            Ops.i(Ops.LOAD, 0, 4, 3), Ops.exit());
        due("14 verify", x.verify(), 0);
        due("14 not there", x.run(), 0);
        due("15 not there", x.ran(1), 4);
        x.enter(5, 0, 1);
        x.enter(4, 6, 77);
        due("14 run", x.run(), 0x12);
        due("13 byte 6", x.entry(5, 6), 0x34);
        due("13 byte 7", x.entry(5, 7), 0x12);
        due("13 byte 5", x.entry(5, 5), 0);
        due("13 another", x.entry(4, 6), 77);
    }

    private static void runCalls() {
        PacketFilter x = Ops.with(Ops.i(Ops.CLOCK), Ops.exit());
        due("14 verify", x.verify(), 0);
        due("14 CLOCK at once", x.run(), 0);
        x = Ops.with(Ops.set(0, 1), Ops.jump(20));
        for (int k = 2; k < 20; k++) Ops.append(x, Ops.set(0, 9));
        Ops.append(x, Ops.i(Ops.CLOCK), Ops.exit());
        due("14 verify", x.verify(), 0);
        due("14 CLOCK counts what was done", x.run(), 2);
        due("15 how many", x.ran(0), 4);
        due("15 which one", x.ran(1), 21);

        x = Ops.with(Ops.i(Ops.SIZE), Ops.exit());
        x.verify();
        for (int k = 0; k <= 16; k++) {
            due("14 SIZE", x.run(), k);
            x.put(k);
        }

        // FIND of the number in the packet's first byte: 1 if it is there, 0 for NULL.
        x = Ops.with(Ops.set(5, 0), Ops.move(0, 5), Ops.i(Ops.GE, 1, 2, 0, 7), Ops.i(Ops.LOAD, 1, 1, 0), Ops.i(Ops.FIND),
            Ops.i(Ops.EQ, 0, -1, 0, 7), Ops.set(0, 1), Ops.exit());
        due("14 verify", x.verify(), 0);
        due("14 empty packet", x.run(), 0);
        due("15 empty packet", x.ran(0), 4);
        x.enter(0, 1, 1);
        x.enter(7, 1, 1);
        for (int e : new int[] {0, 1, 6, 7, 8, 255}) {
            x.cut();
            x.put(e);
            due("14 FIND " + e, x.run(), e == 0 || e == 7 ? 1 : 0);
        }
    }

    private static void runConditions() {
        int[][] pairs = {{0, 0}, {0, 1}, {1, 0}, {255, 255}, {254, 255}, {255, 254}, {6, 9}, {3, 12}};
        for (int op = 22; op <= 28; op++) {
            PacketFilter x = Ops.with(Ops.set(0, 9), Ops.move(4, 1), Ops.with(Ops.ADD, 4, 2), Ops.i(Ops.GT, 4, 2, 0, 10),
                Ops.i(Ops.LOAD, 3, 1, 0), Ops.i(Ops.LOAD, 5, 1, 1), Ops.i(op, 3, 5, 0, 9), Ops.set(0, 0), Ops.exit(), Ops.set(0, 1), Ops.exit());
            due("14 verify", x.verify(), 0);
            due("7 decided", x.decided(6), 3);
            for (int[] p : pairs) {
                int a = p[0], b = p[1];
                boolean[] want = {a == b, a != b, a < b, a <= b, a > b, a >= b, (a & b) != 0};
                x.cut();
                x.put(a);
                x.put(b);
                due("14 " + a + " op " + op + " " + b, x.run(), want[op - 22] ? 1 : 0);
            }
        }
        runEnds();
    }

    private static void runEnds() {
        for (int op = 24; op <= 27; op++) {
            for (int first = 0; first <= 1; first++) {
                int[] condition = first == 0 ? Ops.i(op, 4, 2, 0, 5) : Ops.i(op, 2, 4, 0, 5);
                PacketFilter x = Ops.with(Ops.set(0, 0), Ops.move(4, 1), Ops.with(Ops.ADD, 4, 3), condition, Ops.exit(), Ops.set(0, 1), Ops.exit());
                due("14 verify", x.verify(), 0);
                due("7 both sides are gone", x.decided(3), 3);
                for (int length = 0; length <= 5; length++) {
                    int a = first == 0 ? 3 : length, b = first == 0 ? length : 3;
                    boolean[] want = {a < b, a <= b, a > b, a >= b};
                    due("14 place 3, end " + length + ", op " + op, x.run(), want[op - 24] ? 1 : 0);
                    x.put(0);
                }
            }
        }
    }

    private static void runAndRan() {
        PacketFilter x = Ops.with(Ops.set(0, 3), Ops.exit());
        due("14 without verify", x.run(), BAD);
        due("15 none", x.ran(0), BAD);
        due("14 verify", x.verify(), 0);
        due("15 none yet", x.ran(1), BAD);
        due("14 run", x.run(), 3);
        due("14 again", x.run(), 3);
        for (int what : new int[] {-1, 2, FAR, LOW}) due("15 what", x.ran(what), BAD);
        due("15 how many", x.ran(0), 2);
        due("15 which", x.ran(1), 1);
        x.wipe();
        Ops.append(x, Ops.exit());
        due("14 verify", x.verify(), 1);
        due("14 it is WRONG", x.run(), BAD);
        due("15 stays", x.ran(0), 2);
        due("15 stays", x.ran(1), 1);
        x.wipe();
        Ops.append(x, Ops.i(Ops.SIZE), Ops.move(4, 0), Ops.exit());
        due("14 without verify", x.run(), BAD);
        due("15 stays", x.ran(0), 2);
        due("14 verify", x.verify(), 0);
        due("15 stays", x.ran(0), 2);
        due("14 run", x.run(), 0);
        due("15 how many", x.ran(0), 3);
        due("15 which", x.ran(1), 2);

        x = new PacketFilter();
        for (int k = 0; k < 31; k++) Ops.append(x, Ops.i(Ops.CLOCK));
        Ops.append(x, Ops.exit());
        due("14 verify", x.verify(), 0);
        due("14 the longest", x.run(), 30);
        due("15 the longest", x.ran(0), 32);
        due("15 the longest", x.ran(1), 31);
        due("2 full", x.code(0, 0, 0, 0, 0), FULL);
        due("14 a refused one is no change", x.run(), 30);
    }

    private static void changes() {
        PacketFilter x = Ops.with(Ops.i(Ops.SIZE), Ops.exit());
        due("16 verify", x.verify(), 0);
        x.put(1);
        x.enter(1, 1, 1);
        due("16 run", x.run(), 1);
        x.drop(1);
        x.cut();
        due("16 run", x.run(), 0);
        due("16 bound", x.bound(1, 0, 2), 16);
        due("16 refused", x.code(21, 0, 0, 0, 2), BAD);
        due("16 run", x.run(), 0);
        due("16 code", x.code(29, 0, 0, 0, 0), 2);
        due("16 run", x.run(), BAD);
        due("16 place", x.place(), BAD);
        due("16 ran", x.ran(0), 2);
        due("16 verify", x.verify(), 0);
        due("16 run", x.run(), 0);
        due("16 wipe", x.wipe(), 3);
        due("16 ran", x.ran(1), 1);
        due("16 verify", x.verify(), 6);
        due("16 place", x.place(), 0);
        due("16 wipe of nothing", x.wipe(), 0);
        due("16 known no more", x.place(), BAD);
        due("16 ran", x.ran(0), 2);
    }
}
