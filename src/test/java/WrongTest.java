/** What is WRONG, 1 to 5, at each instruction; 6 is in PromisesTest. */
public final class WrongTest {
    private static final Checks checks = new Checks();
    private static final int PACKET = 0, END = 1, ENTRY = 2, PERHAPS = 3, NUMBER = 4;

    public static void main(String[] args) {
        unset();
        unsetAfterCalls();
        kindsOfEach();
        kindsOfConditions();
        leastAtOneInstruction();
        farPlaces();
        packetBytes();
        entryBytes();
        movedByRegister();
        entryMovedByRegister();
        odd();
        perhapsOfOneOrigin();
        ends();
        fartherThanNothing();
        checks.end();
    }

    private static void wrong(String what, int code, int at, int[]... instructions) {
        PacketFilter x = Ops.with(instructions);
        checks.due(what + ": verify", x.verify(), code);
        checks.due(what + ": place", x.place(), code == 0 ? PacketFilter.BAD : at);
    }

    private static void unset() {
        for (int op = Ops.ADD; op <= Ops.RIGHT; op++) {
            wrong("d of " + op, 1, 0, Ops.with(op, 4, 1));
            wrong("s of " + op, 1, 1, Ops.set(4, 1), Ops.i(op, 4, 5));
            wrong("register 0 as s of " + op, 1, 1, Ops.set(4, 1), Ops.i(op, 4, 0));
        }
        for (int op = Ops.EQ; op <= Ops.BITS; op++) {
            wrong("d of " + op, 1, 0, Ops.i(op, 4, -1, 1, 1), Ops.exit());
            wrong("s of " + op, 1, 1, Ops.set(4, 1), Ops.i(op, 4, 5, 0, 2), Ops.exit());
            wrong("register 0 as s of " + op, 1, 1, Ops.set(4, 1), Ops.i(op, 4, 0, 0, 2), Ops.exit());
        }
        wrong("MOVE", 1, 0, Ops.move(4, 5));
        wrong("MOVE to an unset one", 0, 0, Ops.set(0, 1), Ops.move(4, 0), Ops.exit());
        wrong("LOAD", 1, 0, Ops.i(Ops.LOAD, 1, 4, 0));
        wrong("LOAD2", 1, 0, Ops.i(Ops.LOAD2, 1, 4, 0));
        for (int op : new int[] {Ops.STORE, Ops.STORE2}) {
            wrong("d of STORE", 1, 1, Ops.set(0, 1), Ops.i(op, 4, 0, 0));
            wrong("s of STORE", 1, 0, Ops.i(op, 1, 4, 0));
        }
        wrong("SAVE", 1, 0, Ops.i(Ops.SAVE, 4, 0, 0));
        for (int n = 0; n < 4; n++) wrong("BACK", 1, 1, Ops.i(Ops.SAVE, 1, 0, n), Ops.i(Ops.BACK, 4, 0, n ^ 1));
        wrong("EXIT", 1, 0, Ops.exit());
        wrong("SET", 0, 0, Ops.set(0, 1), Ops.exit());
    }

    private static void unsetAfterCalls() {
        for (int op = Ops.FIND; op <= Ops.CLOCK; op++) {
            int[][] before = {Ops.set(1, 1), Ops.set(2, 1), Ops.set(3, 1), Ops.set(4, 1), Ops.set(5, 1), Ops.i(Ops.SAVE, 1, 0, 0), Ops.i(op)};
            for (int r = 1; r <= 5; r++) {
                PacketFilter x = Ops.with(before);
                Ops.append(x, Ops.move(0, r), Ops.exit());
                checks.due("register " + r + " after " + op, x.verify(), r <= 3 ? 1 : 0);
            }
            PacketFilter x = Ops.with(before);
            Ops.append(x, Ops.i(Ops.BACK, 0, 0, 0), Ops.exit());
            checks.due("a slot after " + op, x.verify(), 0);
        }
        wrong("FIND itself", 1, 1, Ops.i(Ops.SIZE), Ops.i(Ops.FIND));
    }

    /** Register 4 is of this kind, register 5 the number 0; the next instruction is 10. */
    private static PacketFilter withKind(int kind) {
        PacketFilter x = Ops.with(Ops.i(Ops.SAVE, 1, 0, 0), Ops.i(Ops.SAVE, 2, 0, 1), Ops.set(1, 1), Ops.i(Ops.FIND), Ops.i(Ops.SAVE, 0, 0, 2),
            Ops.set(5, 0), Ops.set(0, 0));
        if (kind == PACKET) Ops.append(x, Ops.i(Ops.BACK, 4, 0, 0), Ops.set(0, 0), Ops.set(0, 0));
        if (kind == END) Ops.append(x, Ops.i(Ops.BACK, 4, 0, 1), Ops.set(0, 0), Ops.set(0, 0));
        if (kind == PERHAPS) Ops.append(x, Ops.i(Ops.BACK, 4, 0, 2), Ops.set(0, 0), Ops.set(0, 0));
        if (kind == ENTRY) Ops.append(x, Ops.i(Ops.BACK, 4, 0, 2), Ops.i(Ops.NE, 4, -1, 0, 10), Ops.exit());
        if (kind == NUMBER) Ops.append(x, Ops.set(4, 3), Ops.set(0, 0), Ops.set(0, 0));
        return x;
    }

    /** What is WRONG at this instruction for each kind of register 4. */
    private static void ofKinds(String what, int[] instruction, int... want) {
        for (int kind = 0; kind <= NUMBER; kind++) {
            PacketFilter x = withKind(kind);
            Ops.append(x, instruction, Ops.set(0, 1), Ops.exit());
            checks.due(what + " of kind " + kind, x.verify(), want[kind]);
            checks.due(what + " of kind " + kind + ": place", x.place(), want[kind] == 0 ? -1 : 10);
        }
    }

    private static void kindsOfEach() {
        // The order: PACKET, END, ENTRY, PERHAPS, NUMBER.
        ofKinds("ADD a constant", Ops.with(Ops.ADD, 4, 1), 0, 2, 0, 3, 0);
        ofKinds("ADD a register", Ops.i(Ops.ADD, 4, 5), 0, 2, 0, 3, 0);
        ofKinds("ADD to a number", Ops.i(Ops.ADD, 5, 4), 2, 2, 2, 2, 0);
        ofKinds("ADD itself", Ops.i(Ops.ADD, 4, 4), 2, 2, 2, 2, 0);
        ofKinds("SUB a constant", Ops.with(Ops.SUB, 4, 1), 0, 2, 0, 3, 0);
        ofKinds("SUB a register", Ops.i(Ops.SUB, 4, 5), 2, 2, 2, 2, 0);
        ofKinds("SUB register 0", Ops.i(Ops.SUB, 4, 0), 2, 2, 2, 2, 0);
        ofKinds("SUB from a number", Ops.i(Ops.SUB, 5, 4), 2, 2, 2, 2, 0);
        for (int op = Ops.MUL; op <= Ops.RIGHT; op++) {
            ofKinds("d of " + op, Ops.i(op, 4, 5), 2, 2, 2, 2, 0);
            ofKinds("d of " + op + " with a constant", Ops.with(op, 4, 1), 2, 2, 2, 2, 0);
            ofKinds("s of " + op, Ops.i(op, 5, 4), 2, 2, 2, 2, 0);
        }
        ofKinds("MOVE", Ops.move(5, 4), 0, 0, 0, 0, 0);
        ofKinds("SAVE", Ops.i(Ops.SAVE, 4, 0, 3), 0, 0, 0, 0, 0);
        ofKinds("LOAD", Ops.i(Ops.LOAD, 5, 4, 0), 4, 2, 0, 3, 2);
        ofKinds("LOAD2", Ops.i(Ops.LOAD2, 5, 4, 0), 4, 2, 0, 3, 2);
        ofKinds("STORE to it", Ops.i(Ops.STORE, 4, 5, 0), 4, 2, 0, 3, 2);
        ofKinds("STORE2 to it", Ops.i(Ops.STORE2, 4, 5, 0), 4, 2, 0, 3, 2);
        ofKinds("STORE of it", Ops.i(Ops.STORE, 4, 4, 0), 2, 2, 2, 2, 2);
        for (int kind = 0; kind <= NUMBER; kind++) {
            PacketFilter x = withKind(kind);
            Ops.append(x, Ops.move(1, 4), Ops.i(Ops.FIND), Ops.set(0, 0), Ops.exit());
            checks.due("FIND with kind " + kind, x.verify(), kind == NUMBER ? 0 : 2);
            x = withKind(kind);
            Ops.append(x, Ops.move(0, 4), Ops.exit());
            checks.due("EXIT with kind " + kind, x.verify(), kind == NUMBER ? 0 : 2);
            int[] shown = {2, 3, 4, 5, 1};
            checks.due("bound of kind " + kind, x.bound(11, 0, 0), shown[kind]);
        }
    }

    private static void kindsOfConditions() {
        for (int op = Ops.EQ; op <= Ops.BITS; op++) {
            boolean equality = op == Ops.EQ || op == Ops.NE;
            ofKinds(op + " with 0", Ops.i(op, 4, -1, 0, 12), 2, 2, 2, equality ? 0 : 2, 0);
            ofKinds(op + " with 1", Ops.i(op, 4, -1, 1, 12), 2, 2, 2, 2, 0);
            ofKinds(op + " with a register that is 0", Ops.i(op, 4, 5, 0, 12), 2, 2, 2, 2, 0);
            ofKinds(op + " with register 0, which is 0", Ops.i(op, 4, 0, 0, 12), 2, 2, 2, 2, 0);
            ofKinds(op + ", second", Ops.i(op, 5, 4, 0, 12), 2, 2, 2, 2, 0);
        }
        for (int op = Ops.EQ; op <= Ops.BITS; op++) {
            boolean order = op >= Ops.LT && op <= Ops.GE;
            wrong("PACKET " + op + " END", order ? 0 : 2, 1, Ops.set(0, 0), Ops.i(op, 1, 2, 0, 2), Ops.exit());
            wrong("END " + op + " PACKET", order ? 0 : 2, 1, Ops.set(0, 0), Ops.i(op, 2, 1, 0, 2), Ops.exit());
            for (int r = 1; r <= 2; r++) {
                wrong("alike " + op, 2, 2, Ops.set(0, 0), Ops.move(4, r), Ops.i(op, r, 4, 0, 3), Ops.exit());
            }
        }
        for (int op = Ops.LT; op <= Ops.GE; op++) {
            PacketFilter x = withKind(ENTRY);
            Ops.append(x, Ops.i(Ops.BACK, 5, 0, 1), Ops.i(op, 4, 5, 0, 12), Ops.exit());
            checks.due("ENTRY " + op + " END", x.verify(), 2);
        }
    }

    private static void leastAtOneInstruction() {
        PacketFilter x = withKind(PERHAPS);
        Ops.append(x, Ops.i(Ops.ADD, 4, 3), Ops.exit());
        checks.due("UNSET before PERHAPS", x.verify(), 1);
        x = withKind(PERHAPS);
        Ops.append(x, Ops.i(Ops.BACK, 5, 0, 0), Ops.i(Ops.STORE, 4, 5, 0), Ops.exit());
        checks.due("a kind before PERHAPS", x.verify(), 2);
        wrong("a kind before a byte", 2, 0, Ops.i(Ops.STORE, 1, 2, 200));
        wrong("a byte before odd", 4, 0, Ops.i(Ops.LOAD2, 0, 1, 1));
        wrong("UNSET before a kind", 1, 0, Ops.i(Ops.MUL, 1, 4));
    }

    private static void farPlaces() {
        wrong("ADD 4000", 0, 0, Ops.with(Ops.ADD, 1, 4000), Ops.set(0, 0), Ops.exit());
        wrong("ADD 4001", 4, 0, Ops.with(Ops.ADD, 1, 4001));
        wrong("ADD 65535", 4, 0, Ops.with(Ops.ADD, 1, 65535));
        wrong("SUB 4000", 0, 0, Ops.with(Ops.SUB, 1, 4000), Ops.set(0, 0), Ops.exit());
        wrong("SUB 4001", 4, 0, Ops.with(Ops.SUB, 1, 4001));
        wrong("there and back", 0, 0, Ops.with(Ops.SUB, 1, 4000), Ops.with(Ops.ADD, 1, 8000), Ops.set(0, 0), Ops.exit());
        wrong("there and too far back", 4, 1, Ops.with(Ops.SUB, 1, 4000), Ops.with(Ops.ADD, 1, 8001));
        wrong("a register: 4000", 0, 0, Ops.set(0, 4000), Ops.i(Ops.ADD, 1, 0), Ops.exit());
        wrong("a register: 4001", 4, 1, Ops.set(0, 4001), Ops.i(Ops.ADD, 1, 0));
        wrong("the hi of the base", 4, 6, Ops.move(4, 1), Ops.i(Ops.SAVE, 1, 0, 0), Ops.i(Ops.SIZE), Ops.i(Ops.ADD, 4, 0),
            Ops.with(Ops.ADD, 4, 3984), Ops.with(Ops.SUB, 4, 1), Ops.with(Ops.ADD, 4, 2));
        wrong("the lo of the base", 4, 5, Ops.move(4, 1), Ops.i(Ops.SAVE, 1, 0, 0), Ops.i(Ops.SIZE), Ops.i(Ops.ADD, 4, 0),
            Ops.with(Ops.SUB, 4, 4000), Ops.with(Ops.SUB, 4, 1));
        for (int step : new int[] {3984, 3985}) {
            wrong("the hi of a register", step == 3984 ? 0 : 4, 3, Ops.move(4, 1), Ops.i(Ops.SIZE), Ops.with(Ops.ADD, 4, step), Ops.i(Ops.ADD, 4, 0), Ops.exit());
        }
        for (int over = 0; over <= 1; over++) {
            PacketFilter x = withKind(ENTRY);
            Ops.append(x, Ops.with(Ops.ADD, 4, 4000 + over), Ops.exit());
            checks.due("an entry, ADD", x.verify(), over == 0 ? 0 : 4);
            x = withKind(ENTRY);
            Ops.append(x, Ops.with(Ops.SUB, 4, 4000 + over), Ops.exit());
            checks.due("an entry, SUB", x.verify(), over == 0 ? 0 : 4);
            x = withKind(ENTRY);
            Ops.append(x, Ops.set(5, 4000 + over), Ops.i(Ops.ADD, 4, 5), Ops.exit());
            checks.due("an entry, a register", x.verify(), over == 0 ? 0 : 4);
        }
    }

    private static void packetBytes() {
        wrong("nothing is known", 4, 0, Ops.i(Ops.LOAD, 0, 1, 0));
        for (int reach = 1; reach <= 16; reach++) {
            for (int n = 0; n <= 17; n++) {
                PacketFilter x = Ops.with(Ops.set(0, 0), Ops.move(4, 1), Ops.with(Ops.ADD, 4, reach), Ops.i(Ops.LE, 4, 2, 0, 5), Ops.exit(),
                    Ops.i(Ops.LOAD, 0, 1, n), Ops.exit());
                checks.due("byte " + n + " of " + reach, x.verify(), n < reach ? 0 : 4);
            }
        }
        int[][] known = {Ops.set(0, 0), Ops.move(4, 1), Ops.with(Ops.ADD, 4, 4), Ops.i(Ops.LE, 4, 2, 0, 5), Ops.exit()};
        int[][] touches = {{Ops.LOAD, 0, 4, 0, 4}, {Ops.STORE, 1, 0, 3, 0}, {Ops.STORE, 1, 0, 4, 4}, {Ops.LOAD2, 0, 1, 2, 0},
            {Ops.LOAD2, 0, 1, 3, 4}, {Ops.STORE2, 1, 0, 2, 0}, {Ops.STORE2, 1, 0, 4, 4}};
        for (int[] each : touches) {
            PacketFilter x = Ops.with(known);
            Ops.append(x, Ops.i(each[0], each[1], each[2], each[3]), Ops.exit());
            checks.due("touch " + java.util.Arrays.toString(each), x.verify(), each[4]);
        }
        for (int back = 0; back <= 6; back++) {
            PacketFilter x = Ops.with(known);
            Ops.append(x, Ops.with(Ops.SUB, 4, back), Ops.i(Ops.LOAD, 0, 4, 1), Ops.exit());
            checks.due("back by " + back, x.verify(), back >= 2 && back <= 5 ? 0 : 4);
        }
    }

    private static void entryBytes() {
        for (int n = 0; n <= 9; n++) {
            for (int back = 0; back <= 2; back++) {
                int[] ops = {Ops.LOAD, Ops.LOAD2, Ops.STORE, Ops.STORE2};
                for (int op : ops) {
                    PacketFilter x = withKind(ENTRY);
                    boolean two = op == Ops.LOAD2 || op == Ops.STORE2;
                    Ops.append(x, Ops.with(Ops.SUB, 4, back), op <= Ops.LOAD2 ? Ops.i(op, 5, 4, n) : Ops.i(op, 4, 5, n), Ops.exit());
                    int at = n - back;
                    int want = at < 0 || at + (two ? 2 : 1) > 8 ? 4 : two && at % 2 != 0 ? 5 : 0;
                    checks.due("entry byte " + n + " - " + back + " by " + op, x.verify(), want);
                }
            }
        }
    }

    /** Register 5 is the packet's first place, 4 that moved on by 0 .. 16, 3 by a step more; the next instruction is 9. */
    private static int[][] moved(int step) {
        return new int[][] {Ops.move(4, 1), Ops.i(Ops.SAVE, 2, 0, 0), Ops.move(5, 1), Ops.i(Ops.SIZE), Ops.i(Ops.ADD, 4, 0), Ops.move(3, 4),
            Ops.with(Ops.ADD, 3, step), Ops.i(Ops.BACK, 2, 0, 0), Ops.set(0, 0)};
    }

    private static void movedByRegister() {
        wrong("reaches nothing", 4, 2, Ops.set(0, 0), Ops.i(Ops.ADD, 1, 0), Ops.i(Ops.LOAD, 0, 1, 0));
        PacketFilter x = Ops.with(moved(2));
        Ops.append(x, Ops.i(Ops.LE, 3, 2, 0, 11), Ops.exit(), Ops.i(Ops.LOAD, 0, 4, 1), Ops.i(Ops.LOAD, 0, 3, 0), Ops.exit());
        checks.due("what it reaches", x.verify(), 4);
        checks.due("what it reaches", x.place(), 12);
        x = Ops.with(moved(2));
        Ops.append(x, Ops.i(Ops.LT, 3, 2, 0, 11), Ops.exit(), Ops.i(Ops.LOAD, 0, 4, 2), Ops.i(Ops.LOAD, 0, 3, 0), Ops.exit());
        checks.due("one more", x.verify(), 0);
        x = Ops.with(moved(2));
        Ops.append(x, Ops.i(Ops.LT, 3, 2, 0, 11), Ops.exit(), Ops.i(Ops.LOAD, 0, 5, 0), Ops.exit());
        checks.due("another origin", x.verify(), 4);
        x = Ops.with(moved(2));
        Ops.append(x, Ops.i(Ops.SAVE, 4, 0, 3), Ops.i(Ops.LT, 3, 2, 0, 12), Ops.exit(), Ops.i(Ops.BACK, 1, 0, 3), Ops.i(Ops.LOAD, 0, 1, 2), Ops.exit());
        checks.due("a slot of this origin", x.verify(), 0);
        x = Ops.with(moved(2));
        Ops.append(x, Ops.i(Ops.LT, 3, 2, 0, 11), Ops.exit(), Ops.i(Ops.ADD, 3, 0), Ops.i(Ops.LOAD, 0, 3, 0), Ops.exit());
        checks.due("moved again", x.verify(), 4);
        x = Ops.with(moved(2));
        Ops.append(x, Ops.i(Ops.LT, 3, 2, 0, 11), Ops.exit(), Ops.with(Ops.SUB, 4, 1), Ops.i(Ops.LOAD, 0, 4, 0), Ops.exit());
        checks.due("below the lo of the base", x.verify(), 4);
        x = Ops.with(moved(4));
        Ops.append(x, Ops.i(Ops.LE, 3, 2, 0, 11), Ops.exit(), Ops.with(Ops.SUB, 3, 1), Ops.i(Ops.LT, 3, 2, 0, 13), Ops.i(Ops.LOAD, 0, 4, 3), Ops.exit());
        checks.due("it never reaches less", x.verify(), 0);
        // Register 0 of the way that jumps, of which nothing is known, while the other one learns of the same origin.
        x = Ops.with(Ops.move(0, 1), Ops.move(4, 1), Ops.with(Ops.ADD, 4, 3), Ops.i(Ops.GT, 4, 2, 0, 6), Ops.i(Ops.LOAD, 0, 0, 2), Ops.exit(),
            Ops.i(Ops.LOAD, 0, 0, 0), Ops.exit());
        checks.due("each way for itself", x.verify(), 4);
        checks.due("each way for itself", x.place(), 6);
    }

    private static void entryMovedByRegister() {
        // The entry's place is moved on by 0 .. 3, or when doubled by 0, 2, 4 or 6, and one back.
        for (int n = 0; n <= 8; n++) {
            for (int twice = 0; twice <= 1; twice++) {
                for (int op : new int[] {Ops.LOAD, Ops.LOAD2}) {
                    PacketFilter x = withKind(ENTRY);
                    Ops.append(x, Ops.i(Ops.SIZE), Ops.with(Ops.AND, 0, 3), Ops.with(Ops.LEFT, 0, twice), Ops.i(Ops.ADD, 4, 0),
                        Ops.with(Ops.SUB, 4, 1), Ops.i(op, 0, 4, n), Ops.exit());
                    int top = twice == 0 ? 3 : 6;
                    int length = op == Ops.LOAD ? 1 : 2;
                    int want = n - 1 < 0 || n - 1 + top + length > 8 ? 4 : length == 2 && (twice == 0 || n % 2 == 0) ? 5 : 0;
                    checks.due("entry moved by 0 .. " + top + " and " + n + " - 1, " + op, x.verify(), want);
                }
            }
        }
        PacketFilter x = withKind(ENTRY);
        Ops.append(x, Ops.set(5, 1), Ops.i(Ops.ADD, 4, 5), Ops.i(Ops.LOAD2, 0, 4, 1), Ops.exit());
        checks.due("the base is odd", x.verify(), 5);
        x = withKind(ENTRY);
        Ops.append(x, Ops.set(5, 1), Ops.i(Ops.ADD, 4, 5), Ops.i(Ops.ADD, 4, 5), Ops.i(Ops.LOAD2, 0, 4, 0), Ops.exit());
        checks.due("odd twice is even", x.verify(), 0);
        x = withKind(ENTRY);
        Ops.append(x, Ops.set(5, 1), Ops.i(Ops.ADD, 4, 5), Ops.i(Ops.SIZE), Ops.with(Ops.AND, 0, 2), Ops.i(Ops.ADD, 4, 0), Ops.i(Ops.LOAD2, 0, 4, 0), Ops.exit());
        checks.due("odd and even is odd", x.verify(), 5);
        // Moved twice by 0 .. 2, so that it is at 0 .. 4.
        for (int back = 0; back <= 1; back++) {
            for (int n = 0; n <= 6; n++) {
                x = withKind(ENTRY);
                Ops.append(x, Ops.i(Ops.SIZE), Ops.with(Ops.AND, 0, 2), Ops.i(Ops.ADD, 4, 0), Ops.i(Ops.ADD, 4, 0), Ops.with(Ops.SUB, 4, back),
                    Ops.i(Ops.LOAD, 0, 4, n), Ops.exit());
                checks.due("moved twice and " + n + " - " + back, x.verify(), n < back || n - back > 3 ? 4 : 0);
            }
        }
    }

    private static void odd() {
        int[][] known = {Ops.set(0, 0), Ops.move(4, 1), Ops.with(Ops.ADD, 4, 10), Ops.i(Ops.LE, 4, 2, 0, 5), Ops.exit()};
        for (int op : new int[] {Ops.LOAD2, Ops.STORE2}) {
            for (int move = 1; move <= 4; move++) {
                for (int n = 0; n <= 4; n++) {
                    PacketFilter x = Ops.with(known);
                    Ops.append(x, Ops.with(Ops.ADD, 1, move), op == Ops.LOAD2 ? Ops.i(op, 0, 1, n) : Ops.i(op, 1, 0, n), Ops.exit());
                    checks.due("two bytes at " + move + " + " + n, x.verify(), (move + n) % 2 == 0 ? 0 : 5);
                }
            }
            PacketFilter x = Ops.with(known);
            Ops.append(x, Ops.with(Ops.SUB, 1, 1), op == Ops.LOAD2 ? Ops.i(op, 0, 1, 2) : Ops.i(op, 1, 0, 2), Ops.exit());
            checks.due("two bytes at 2 - 1", x.verify(), 5);
        }
    }

    private static void perhapsOfOneOrigin() {
        // Two FINDs: what is known of the first, with its copies, says nothing of the second.
        int[][] both = {Ops.set(1, 1), Ops.i(Ops.FIND), Ops.move(4, 0), Ops.i(Ops.SAVE, 0, 0, 0), Ops.set(1, 1), Ops.i(Ops.FIND), Ops.move(5, 0),
            Ops.set(0, 0), Ops.i(Ops.NE, 4, -1, 0, 11), Ops.i(Ops.BACK, 0, 0, 0), Ops.exit()};
        PacketFilter x = Ops.with(both);
        Ops.append(x, Ops.i(Ops.BACK, 3, 0, 0), Ops.i(Ops.LOAD, 0, 3, 7), Ops.i(Ops.LOAD, 0, 4, 7), Ops.exit());
        checks.due("a copy in a slot", x.verify(), 0);
        checks.due("NULL is the number 0", x.bound(9, 4, 0), 1);
        checks.due("NULL is the number 0", x.bound(9, 4, 2), 0);
        checks.due("NULL is the number 0", x.bound(9, 6, 3), 16);
        checks.due("the other one", x.bound(9, 5, 0), 5);
        checks.due("the other one", x.bound(11, 5, 0), 5);
        checks.due("an entry", x.bound(11, 6, 0), 4);
        checks.due("both sides are gone", x.decided(8), 3);
        x = Ops.with(both);
        Ops.append(x, Ops.i(Ops.LOAD, 0, 5, 7), Ops.exit());
        checks.due("another origin", x.verify(), 3);
        x = Ops.with(Ops.set(1, 1), Ops.i(Ops.FIND), Ops.i(Ops.EQ, 0, -1, 0, 4), Ops.i(Ops.LOAD, 0, 0, 0), Ops.i(Ops.LOAD, 0, 0, 0));
        checks.due("NULL is no place", x.verify(), 2);
        checks.due("NULL is no place", x.place(), 4);
    }

    /** On which side of each condition a place moved by 3 is known to be there. */
    private static void ends() {
        // For PACKET first: what is reached where it jumps and where it does not; 0 is nothing.
        int[][] reached = {{4, 0}, {3, 0}, {0, 3}, {0, 4}};
        int[] turned = {Ops.GT, Ops.GE, Ops.LT, Ops.LE};
        for (int k = 0; k < 4; k++) {
            for (int n = 0; n <= 4; n++) {
                sideReaches(Ops.i(Ops.LT + k, 4, 2, 0, 6), n, reached[k]);
                sideReaches(Ops.i(turned[k], 2, 4, 0, 6), n, reached[k]);
            }
        }
    }

    private static void sideReaches(int[] condition, int n, int[] reached) {
        String what = java.util.Arrays.toString(condition) + " byte " + n;
        PacketFilter x = Ops.with(Ops.set(0, 0), Ops.move(4, 1), Ops.with(Ops.ADD, 4, 3), condition, Ops.set(0, 0), Ops.exit(),
            Ops.i(Ops.LOAD, 0, 1, n), Ops.exit());
        checks.due(what + " where it jumps", x.verify(), n < reached[0] ? 0 : 4);
        x = Ops.with(Ops.set(0, 0), Ops.move(4, 1), Ops.with(Ops.ADD, 4, 3), condition, Ops.i(Ops.LOAD, 0, 1, n), Ops.exit(), Ops.exit());
        checks.due(what + " where it stays", x.verify(), n < reached[1] ? 0 : 4);
    }

    /** By the words of the document a step below -9999 is within what reaches -9999; such a run must end all the same. */
    private static void fartherThanNothing() {
        PacketFilter x = Ops.with(Ops.set(4, 8000), Ops.with(Ops.SUB, 1, 4000), Ops.i(Ops.ADD, 1, 4), Ops.with(Ops.SUB, 1, 8000), Ops.i(Ops.ADD, 1, 4),
            Ops.with(Ops.SUB, 1, 4000), Ops.i(Ops.STORE, 1, 4, 255), Ops.i(Ops.LOAD, 0, 1, 0), Ops.exit());
        checks.due("a step far below", x.verify(), 0);
        checks.due("no byte is there", x.run(), 0);
        checks.due("no byte is there", x.packet(0), PacketFilter.BAD);
    }
}
