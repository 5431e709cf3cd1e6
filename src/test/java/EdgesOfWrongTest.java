/** The limits that the document names of what is WRONG, 1 to 6, and of places: the last that is good and the first that is not. */
public final class EdgesOfWrongTest extends Ranges {
    private static final int BAD = PacketFilter.BAD;
    private static final int[] ONE_BYTE = {Ops.LOAD, Ops.STORE}, TWO_BYTES = {Ops.LOAD2, Ops.STORE2};

    public static void main(String[] args) {
        beginning();
        unset();
        kinds();
        perhaps();
        tooFarOn();
        tooFarBack();
        beforeTheFirstByte();
        reachesAtFirst();
        reaches();
        stepsByConstants();
        reachesWhenMoved();
        reachesNothing();
        origins();
        allOfOneWay();
        placesAtFirst();
        bytesOfAnEntry();
        odd();
        oddBase();
        noInstruction();
        leastOfOneWay();
        leastOfTwoWays();
        leastInstruction();
        checks.end();
    }

    private static void wrong(String what, PacketFilter x, int code, int at) {
        checks.due(what + ": verify", x.verify(), code);
        checks.due(what + ": place", x.place(), code == 0 ? BAD : at);
    }

    // ---- What the tests begin with

    /** Register 4 is the packet's first place, 2 is END, 5 and 0 are numbers, 0; the next instruction is 5. */
    private static PacketFilter packet() {
        return Ops.with(Ops.move(4, 1), Ops.set(0, 0), Ops.set(5, 0), Ops.set(3, 0), Ops.set(3, 0));
    }

    /** Register 4 is an entry, 5 and 0 are numbers, 0; the next instruction is 7. */
    private static PacketFilter entry() {
        return Ops.with(Ops.set(1, 3), Ops.i(Ops.FIND), Ops.set(5, 0), Ops.i(Ops.NE, 0, -1, 0, 5), Ops.exit(), Ops.move(4, 0), Ops.set(0, 0));
    }

    /** As packet(), but 4 has this range as its base, which was added in instruction 11, and 3 is a copy of it; the next one is 14. */
    private static PacketFilter movedPacket(int[] base, int stepBefore) {
        PacketFilter x = Ops.with(Ops.i(Ops.SAVE, 1, 0, 0), Ops.i(Ops.SAVE, 2, 0, 1));
        give(x, 5, base);
        Ops.append(x, Ops.i(Ops.BACK, 4, 0, 0), Ops.i(Ops.BACK, 2, 0, 1), moving(4, stepBefore), Ops.i(Ops.ADD, 4, 5), Ops.move(3, 4), Ops.i(Ops.BACK, 1, 0, 0));
        return x;
    }

    /** As entry(), but 4 has this range as its base, which was added in instruction 14; the next one is 15. */
    private static PacketFilter movedEntry(int[] base, int stepBefore) {
        PacketFilter x = Ops.with(Ops.set(1, 3), Ops.i(Ops.FIND), Ops.i(Ops.NE, 0, -1, 0, 4), Ops.exit(), Ops.i(Ops.SAVE, 0, 0, 0), Ops.set(0, 0));
        give(x, 5, base);
        Ops.append(x, Ops.i(Ops.BACK, 4, 0, 0), moving(4, stepBefore), Ops.i(Ops.ADD, 4, 5));
        return x;
    }

    private static int[] moving(int register, int by) {
        return by < 0 ? Ops.with(Ops.SUB, register, -by) : Ops.with(Ops.ADD, register, by);
    }

    /** The instruction that touches what is at register 4 and n. */
    private static int[] touching(int op, int n) {
        return op == Ops.LOAD || op == Ops.LOAD2 ? Ops.i(op, 0, 4, n) : Ops.i(op, 4, 5, n);
    }

    private static void end(PacketFilter x) {
        while (x.code(Ops.EXIT, 0, 0, 0, 0) >= 0) continue;
    }

    /** What is WRONG if register 4 moves on by a step and is touched then, as the last thing of all. */
    private static void touches(String what, PacketFilter x, int step, int op, int n, int want) {
        int before = x.code(moving(4, step)[0], 4, -1, step < 0 ? -step : step, 0);
        Ops.append(x, touching(op, n));
        end(x);
        wrong(what + " and " + step + " + " + n + " by " + op, x, want, before + 1);
    }

    // ---- 1, 2, 3

    private static void beginning() {
        checks.sentence("In the beginning register 1 is the packet's first place, register 2 is END, all else UNSET.");
        PacketFilter x = Ops.with(Ops.set(0, 0), Ops.exit());
        checks.due("verify", x.verify(), 0);
        int[] kinds = {0, 2, 3, 0, 0, 0, 0, 0, 0, 0};
        for (int r = 0; r < 10; r++) checks.due("kind of " + r, x.bound(0, r, 0), kinds[r]);
        for (int length = 0; length <= 16; length++) {
            // The first place is before END, but for an empty packet, and END is a place behind the last byte.
            x = Ops.with(Ops.set(0, 0), Ops.i(Ops.GE, 1, 2, 0, 3), Ops.i(Ops.LOAD, 0, 1, 0), Ops.exit());
            for (int k = 0; k < length; k++) x.put(77 + k);
            checks.due("verify", x.verify(), 0);
            checks.due("the first byte of " + length, x.run(), length == 0 ? 0 : 77);
        }
    }

    private static void unset() {
        checks.sentence("1 if something is UNSET that it reads");
        for (int op = Ops.SET; op <= Ops.EXIT; op++) {
            boolean takesX = op >= Ops.ADD && op <= Ops.RIGHT || op >= Ops.EQ && op <= Ops.BITS;
            boolean readsD = takesX || op == Ops.STORE || op == Ops.STORE2 || op == Ops.SAVE;
            boolean readsS = takesX || op == Ops.MOVE || op >= Ops.LOAD && op <= Ops.STORE2;
            for (int set = 0; set <= 3; set++) {
                boolean isUnset = readsD && (set & 1) == 0 || readsS && (set & 2) == 0;
                if (op != Ops.BACK && op != Ops.FIND && op != Ops.EXIT) readsUnset(Ops.i(op, 4, 5, 0, 8), set, isUnset);
                if (takesX) readsUnset(Ops.i(op, 4, -1, 0, 8), set, (set & 1) == 0);
            }
        }
        for (int saved = 0; saved < 4; saved++) {
            for (int slot = 0; slot < 4; slot++) {
                PacketFilter x = Ops.with(Ops.i(Ops.SAVE, 1, 0, saved), Ops.i(Ops.BACK, 4, 0, slot), Ops.set(0, 0), Ops.exit());
                wrong("BACK " + slot + " after SAVE " + saved, x, slot == saved ? 0 : 1, 1);
            }
        }
        for (int op = Ops.ADD; op <= Ops.BITS; op++) {
            if (op > Ops.RIGHT && op < Ops.EQ) continue;
            wrong("register 0 as X of " + op, Ops.with(Ops.set(4, 0), Ops.i(op, 4, 0, 0, 2), Ops.exit()), 1, 1);
        }
        wrong("EXIT", Ops.with(Ops.exit()), 1, 0);
        wrong("EXIT with 0", Ops.with(Ops.set(0, 1), Ops.exit()), 0, 0);
        wrong("FIND", Ops.with(Ops.i(Ops.CLOCK), Ops.i(Ops.FIND), Ops.set(0, 0), Ops.exit()), 1, 1);
        wrong("FIND with 1", Ops.with(Ops.i(Ops.CLOCK), Ops.set(1, 9), Ops.i(Ops.FIND), Ops.set(0, 0), Ops.exit()), 0, 0);
    }

    /** Registers 4 and 5 are set by bits 1 and 2; those that are set are of a kind that is not good for all, so only UNSET is asked for. */
    private static void readsUnset(int[] instruction, int set, boolean isUnset) {
        PacketFilter x = Ops.with(Ops.i(Ops.CLOCK), Ops.set(0, 0), Ops.set(0, 0), (set & 1) != 0 ? Ops.set(4, 0) : Ops.set(0, 0),
            (set & 2) != 0 ? Ops.set(5, 0) : Ops.set(0, 0), instruction, Ops.set(0, 0), Ops.exit(), Ops.set(0, 0), Ops.exit());
        int answer = x.verify();
        String call = java.util.Arrays.toString(instruction) + " with " + set;
        checks.due(call, answer == 1, isUnset);
        if (isUnset) checks.due(call + ": place", x.place(), 5);
    }

    private static final int[] NUMBER_KIND = {0, 2, 2, 2, 2}, PLACE_TO_MOVE = {0, 0, 2, 0, 3}, ANY = {0, 0, 0, 0, 0};

    /** What is WRONG where register 4 is a NUMBER, PACKET, END, ENTRY and PERHAPS, at instruction 12. */
    private static void ofKinds(int[] instruction, int... want) {
        for (int kind = 0; kind < 5; kind++) {
            PacketFilter x = Ops.with(Ops.i(Ops.SAVE, 1, 0, 1), Ops.i(Ops.SAVE, 2, 0, 2), Ops.set(1, 1), Ops.i(Ops.FIND), Ops.i(Ops.SAVE, 0, 0, 3),
                Ops.i(Ops.NE, 0, -1, 0, 7), Ops.exit(), Ops.set(5, 0), kind == 4 ? Ops.set(1, 1) : Ops.set(3, 0), kind == 4 ? Ops.i(Ops.FIND) : Ops.set(3, 0));
            Ops.append(x, kind == 4 ? Ops.move(4, 0) : kind == 0 ? Ops.set(4, 0) : Ops.i(Ops.BACK, 4, 0, kind), Ops.set(0, 0), instruction,
                Ops.set(0, 0), Ops.exit());
            wrong(java.util.Arrays.toString(instruction) + " of kind " + kind, x, want[kind], 12);
        }
    }

    private static void kinds() {
        checks.sentence("2 for a KIND that is not as said (X of 2 to 11 and of conditions are NUMBERS, d too, but as said");
        for (int op = Ops.ADD; op <= Ops.RIGHT; op++) {
            ofKinds(Ops.i(op, 5, 4), NUMBER_KIND);
            if (op > Ops.SUB) ofKinds(Ops.i(op, 4, 5), NUMBER_KIND);
            if (op > Ops.SUB) ofKinds(Ops.with(op, 4, 1), NUMBER_KIND);
        }
        for (int op = Ops.EQ; op <= Ops.BITS; op++) {
            ofKinds(Ops.i(op, 5, 4, 0, 13), NUMBER_KIND);
            ofKinds(Ops.i(op, 4, 5, 0, 13), NUMBER_KIND);
            ofKinds(Ops.i(op, 4, -1, 1, 13), NUMBER_KIND);
            if (op > Ops.NE) ofKinds(Ops.i(op, 4, -1, 0, 13), NUMBER_KIND);
            else ofKinds(Ops.i(op, 4, -1, 0, 13), 0, 2, 2, 2, 0);
            // Register 0 holds 0, but it is not the constant.
            ofKinds(Ops.i(op, 4, 0, 0, 13), NUMBER_KIND);
            for (int first = 1; first <= 2; first++) {
                boolean order = op >= Ops.LT && op <= Ops.GE;
                wrong("PACKET and END by " + op, Ops.with(Ops.set(0, 0), Ops.i(op, first, 3 - first, 0, 2), Ops.exit()), order ? 0 : 2, 1);
                wrong("two alike by " + op, Ops.with(Ops.set(0, 0), Ops.move(4, first), Ops.i(op, first, 4, 0, 3), Ops.exit()), 2, 2);
            }
        }
        checks.sentence("d of ADD, and of SUB of a constant, may be a PACKET, an ENTRY or PERHAPS");
        ofKinds(Ops.i(Ops.ADD, 4, 5), PLACE_TO_MOVE);
        ofKinds(Ops.with(Ops.ADD, 4, 1), PLACE_TO_MOVE);
        ofKinds(Ops.with(Ops.SUB, 4, 1), PLACE_TO_MOVE);
        ofKinds(Ops.i(Ops.SUB, 4, 5), NUMBER_KIND);
        ofKinds(Ops.i(Ops.SUB, 4, 0), NUMBER_KIND);
        ofKinds(Ops.i(Ops.ADD, 4, 0), PLACE_TO_MOVE);

        checks.sentence("like s of LOAD and d of STORE, which must be one of these");
        // The packet's place is as said, but nothing is known of its bytes.
        for (int op = Ops.LOAD; op <= Ops.STORE2; op++) ofKinds(touching(op, 0), 2, 4, 2, 0, 3);

        checks.sentence("s of STORE, register 1 of FIND and register 0 of EXIT are NUMBERS");
        for (int op : new int[] {Ops.STORE, Ops.STORE2}) {
            PacketFilter x = entry();
            Ops.append(x, Ops.i(op, 4, 4, 0));
            wrong("an entry in an entry", x, 2, 7);
            x = entry();
            Ops.append(x, Ops.i(op, 4, 5, 0), Ops.exit());
            wrong("a number in an entry", x, 0, 7);
        }
        int[] shown = {1, 2, 3, 4, 5};
        for (int kind = 0; kind < 5; kind++) {
            int[] copy = kind < 3 ? Ops.i(Ops.BACK, 0, 0, kind) : Ops.move(0, 4);
            PacketFilter x = Ops.with(Ops.set(0, 0), Ops.i(Ops.SAVE, 0, 0, 0), Ops.i(Ops.SAVE, 1, 0, 1), Ops.i(Ops.SAVE, 2, 0, 2), Ops.set(1, 0),
                Ops.i(Ops.FIND), Ops.move(4, 0), kind == 3 ? Ops.i(Ops.NE, 0, -1, 0, 9) : Ops.jump(9), Ops.exit(), copy, Ops.move(1, 0));
            int at = x.code(Ops.FIND, 0, 0, 0, 0);
            Ops.append(x, Ops.set(0, 0), Ops.exit());
            wrong("FIND with kind " + kind, x, kind == 0 ? 0 : 2, at);
            checks.due("what FIND has", x.bound(at, 1, 0), shown[kind]);
            x = Ops.with(Ops.set(0, 0), Ops.i(Ops.SAVE, 0, 0, 0), Ops.i(Ops.SAVE, 1, 0, 1), Ops.i(Ops.SAVE, 2, 0, 2), Ops.set(1, 0),
                Ops.i(Ops.FIND), Ops.move(4, 0), kind == 3 ? Ops.i(Ops.NE, 0, -1, 0, 9) : Ops.jump(9), Ops.exit(), copy, Ops.exit());
            wrong("EXIT with kind " + kind, x, kind == 0 ? 0 : 2, 10);
            checks.due("what EXIT has", x.bound(10, 0, 0), shown[kind]);
        }
        checks.sentence("MOVE, SAVE and BACK copy all but UNSET");
        ofKinds(Ops.move(5, 4), ANY);
        ofKinds(Ops.i(Ops.SAVE, 4, 0, 0), ANY);
    }

    private static void perhaps() {
        checks.sentence("3 for PERHAPS as such a d or s");
        int[][] before = {Ops.set(1, 1), Ops.i(Ops.FIND), Ops.move(4, 0), Ops.set(5, 0), Ops.set(0, 0)};
        int[][] instructions = {Ops.with(Ops.ADD, 4, 0), Ops.with(Ops.ADD, 4, 65535), Ops.with(Ops.SUB, 4, 0), Ops.i(Ops.ADD, 4, 5), Ops.i(Ops.LOAD, 0, 4, 0),
            Ops.i(Ops.LOAD2, 0, 4, 255), Ops.i(Ops.STORE, 4, 5, 0), Ops.i(Ops.STORE2, 4, 5, 1)};
        for (int[] each : instructions) {
            PacketFilter x = Ops.with(before);
            Ops.append(x, each, Ops.exit());
            wrong("PERHAPS, " + java.util.Arrays.toString(each), x, 3, 5);
        }
    }

    // ---- 4: places that are too far

    private static void tooFarOn() {
        checks.sentence("4 if of a place made by ADD or SUB step and hi of the base together are above 4000");
        for (int over = 0; over <= 1; over++) {
            int want = over == 0 ? 0 : 4;
            for (int[] range : new int[][] {one(0), one(1), r(0, 1, 0), r(0, 16, 0), r(5, 3999, 0), r(0, 4000, 0)}) {
                // By a constant after a register, by a register after a constant.
                int rest = 4000 - range[1] + over;
                afterwards("PACKET", movedPacket(range, 0), rest, want, 14);
                afterwards("ENTRY", movedEntry(range, 0), rest, want, 15);
                afterwards("PACKET first", movedPacket(range, rest), 0, want, rest > 4000 ? 10 : 11);
                afterwards("ENTRY first", movedEntry(range, rest), 0, want, rest > 4000 ? 13 : 14);
            }
            afterwards("PACKET by one register", movedPacket(r(0, 4000 + over, 0), 0), 0, want, 11);
            afterwards("ENTRY by one register", movedEntry(r(4000, 4000 + over, 0), 0), 0, want, 14);
            afterwards("PACKET by one constant", packet(), 4000 + over, want, 5);
            afterwards("ENTRY by one constant", entry(), 4000 + over, want, 7);
            // It is looked at again wherever it is moved, on the way back, too.
            PacketFilter x = packet();
            Ops.append(x, moving(4, 3000), moving(4, 1000), moving(4, -1), moving(4, 1 + over));
            afterwards("PACKET in four steps", x, 0, want, 8);
        }
        for (int far : new int[] {4001, 32767, 32768, 65535}) {
            afterwards("PACKET", packet(), far, 4, 5);
            afterwards("ENTRY", entry(), far, 4, 7);
        }
        // The last of the numbers would be 0 and less if a place wrapped.
        afterwards("PACKET does not wrap", movedPacket(r(65535, 65535, 0), 0), 0, 4, 11);
    }

    private static void afterwards(String what, PacketFilter x, int by, int want, int at) {
        Ops.append(x, moving(4, by));
        end(x);
        wrong(what + " by " + by, x, want, at);
    }

    private static void tooFarBack() {
        checks.sentence("or step and lo below -4000");
        for (int over = 0; over <= 1; over++) {
            int want = over == 0 ? 0 : 4;
            for (int[] range : new int[][] {one(0), one(7), r(0, 9, 0), r(7, 9, 0), r(2, 3000, 0)}) {
                afterwards("PACKET", movedPacket(range, 0), -4000 - range[0] - over, want, 14);
                afterwards("ENTRY", movedEntry(range, 0), -4000 - range[0] - over, want, 15);
            }
            afterwards("PACKET by one constant", packet(), -4000 - over, want, 5);
            afterwards("ENTRY by one constant", entry(), -4000 - over, want, 7);
            PacketFilter x = packet();
            Ops.append(x, moving(4, -3000), moving(4, -1000), moving(4, 1), moving(4, -1 - over));
            afterwards("PACKET in four steps", x, 0, want, 8);
            // From the one end to the other.
            x = packet();
            Ops.append(x, moving(4, -4000), moving(4, 8000 + over));
            afterwards("PACKET from end to end", x, 0, want, 6);
            x = packet();
            Ops.append(x, moving(4, 4000), moving(4, -8000 - over));
            afterwards("PACKET from end to end", x, 0, want, 6);
        }
        afterwards("PACKET", packet(), -65535, 4, 5);
        afterwards("ENTRY", entry(), -65535, 4, 7);
    }

    // ---- 4: bytes that need not be there

    /** A packet that has reach bytes at least from the base of register 4 on, whose base is this range. */
    private static PacketFilter reaching(int[] base, int reach) {
        PacketFilter x = movedPacket(base, 0);
        Ops.append(x, moving(3, reach), Ops.i(Ops.LE, 3, 2, 0, 17), Ops.exit(), Ops.set(0, 0));
        return x;
    }

    private static void beforeTheFirstByte() {
        checks.sentence("or a byte is touched that need not be there: n, step and lo of the base below 0");
        for (int op = Ops.LOAD; op <= Ops.STORE2; op++) {
            for (int[] base : new int[][] {one(0), one(4), r(4, 8, 1), r(2, 8, 1), r(0, 8, 1)}) {
                int low = base[0];
                touches("PACKET " + low, reaching(base, 16), -low, op, 0, 0);
                touches("PACKET " + low, reaching(base, 16), -low - 1, op, 0, 4);
                touches("PACKET " + low, reaching(base, 16), -low - 1, op, 1, 0);
                touches("PACKET " + low, reaching(base, 16), -low - 200, op, 200, 0);
                touches("PACKET " + low, reaching(base, 16), -low - 200, op, 199, 4);
            }
            touches("ENTRY", entry(), 0, op, 0, 0);
            touches("ENTRY", entry(), -1, op, 0, 4);
            touches("ENTRY", entry(), -1, op, 1, 0);
            touches("ENTRY", entry(), -255, op, 255, 0);
            touches("ENTRY", entry(), -255, op, 254, 4);
            touches("ENTRY", entry(), -256, op, 255, 4);
            for (int[] base : new int[][] {one(2), r(2, 4, 1)}) {
                touches("ENTRY at " + base[0], movedEntry(base, 0), -2, op, 0, 0);
                touches("ENTRY at " + base[0], movedEntry(base, 0), -3, op, 0, 4);
                touches("ENTRY at " + base[0], movedEntry(base, 0), -3, op, 1, 0);
            }
        }
    }

    private static void reachesAtFirst() {
        checks.sentence("how far the packet REACHES from the base at least (at first 0)");
        for (int op = Ops.LOAD; op <= Ops.STORE2; op++) {
            touches("at first", packet(), 0, op, 0, 4);
            touches("at first", packet(), -1, op, 1, 4);
            touches("at first", packet(), -2, op, 0, 4);
            touches("at first", packet(), 1, op, 0, 4);
        }
    }

    /** Register 4, the first place, is touched where this condition on 3, which is a step on, stays; the EXIT on its other side is 9. */
    private static PacketFilter known(int step, int op) {
        PacketFilter x = packet();
        Ops.append(x, Ops.move(3, 1), moving(3, step), Ops.i(op, 3, 2, 0, 31));
        return x;
    }

    private static void reaches() {
        checks.sentence("n, step and size (1, 2) together above what it REACHES");
        for (int reach : new int[] {1, 2, 8, 15, 16, 17, 255, 256}) {
            for (int op : ONE_BYTE) {
                touches("reaches " + reach, known(reach, Ops.GT), reach - 1, op, 0, 0);
                touches("reaches " + reach, known(reach, Ops.GT), reach, op, 0, 4);
                touches("reaches " + reach, known(reach, Ops.GT), 0, op, reach - 1, 0);
                if (reach < 256) touches("reaches " + reach, known(reach, Ops.GT), 0, op, reach, 4);
                touches("reaches one more than " + (reach - 1), known(reach - 1, Ops.GE), reach - 1, op, 0, 0);
                touches("reaches one more than " + (reach - 1), known(reach - 1, Ops.GE), reach, op, 0, 4);
                touches("reaches " + reach, known(reach, Ops.GT), reach - 3, op, 2, reach < 1 ? 4 : 0);
                touches("reaches " + reach, known(reach, Ops.GT), reach - 3, op, 3, 4);
            }
            int even = reach / 2 * 2;
            for (int op : TWO_BYTES) {
                if (even > 0) touches("reaches " + even, known(even, Ops.GT), even - 2, op, 0, 0);
                touches("reaches " + even, known(even, Ops.GT), even, op, 0, 4);
                // One byte of two is not there.
                touches("reaches " + (even + 1), known(even + 1, Ops.GT), even, op, 0, 4);
                touches("reaches " + (even + 2), known(even + 2, Ops.GT), even, op, 0, 0);
            }
        }
        // A place before the first byte that is at most END says nothing, and what was known stays.
        touches("reaches 0 at least", known(-5, Ops.GT), 0, Ops.LOAD, 0, 4);
        PacketFilter x = known(4, Ops.GT);
        Ops.append(x, moving(3, -2), Ops.i(Ops.GT, 3, 2, 0, 31));
        touches("4 stays 4", x, 0, Ops.LOAD, 3, 0);
        x = known(4, Ops.GT);
        Ops.append(x, moving(3, 2), Ops.i(Ops.GT, 3, 2, 0, 31));
        touches("4 becomes 6", x, 0, Ops.LOAD, 5, 0);
    }

    private static void stepsByConstants() {
        checks.sentence("ADD and SUB of a constant to PACKET or ENTRY change the STEP");
        // Not the base, nor what is known: an odd step there and back leaves an even place, and it reaches as far as before.
        for (int by : new int[] {1, 3, 3999, 4000}) {
            for (int op = Ops.LOAD; op <= Ops.STORE2; op++) {
                PacketFilter x = known(8, Ops.GT);
                Ops.append(x, moving(4, by), moving(4, -by));
                touches("there and back by " + by, x, 0, op, 6, 0);
                x = known(8, Ops.GT);
                Ops.append(x, moving(4, -by), moving(4, by));
                touches("back and there by " + by, x, 0, op, 8, 4);
                x = entry();
                Ops.append(x, moving(4, by), moving(4, -by));
                touches("an entry there and back by " + by, x, 0, op, 6, 0);
                x = entry();
                Ops.append(x, moving(4, -by), moving(4, by));
                touches("an entry back and there by " + by, x, 0, op, 8, 4);
            }
        }
        checks.sentence("the place being base and step");
        for (int base = 0; base <= 16; base++) {
            for (int at = 0; at < 8; at++) {
                PacketFilter x = entry();
                Ops.append(x, Ops.set(5, base), Ops.i(Ops.ADD, 4, 5), moving(4, at - base), Ops.i(Ops.LOAD, 0, 4, 0));
                end(x);
                for (int k = 0; k < 8; k++) x.enter(3, k, 60 + k);
                checks.due("verify", x.verify(), 0);
                checks.due("base " + base + " and step " + (at - base), x.run(), 60 + at);
            }
        }
    }

    private static void reachesWhenMoved() {
        checks.sentence("ADD of a register with a NUMBER adds its range to the BASE (los and his, the lesser z; TRIMMED), and for PACKET the ORIGIN is this instruction "
            + "and it REACHES -9999.");
        // What was known of the place before it was moved, even by 0, is gone; a place that was not moved still has it.
        PacketFilter x = known(9, Ops.GT);
        Ops.append(x, Ops.move(1, 4), Ops.i(Ops.ADD, 4, 5));
        touches("moved by 0", x, 0, Ops.LOAD, 0, 4);
        x = known(9, Ops.GT);
        Ops.append(x, Ops.move(1, 4), Ops.i(Ops.ADD, 1, 5));
        touches("another was moved", x, 0, Ops.LOAD, 8, 0);
        // The base is 20 .. 30, so that these bytes are before it; what is known is counted from the base on.
        for (int step : new int[] {-20, -10, -3, 0, 3}) {
            for (int op : ONE_BYTE) {
                touches("nothing is known", movedPacket(r(20, 30, 0), 0), step, op, 0, 4);
                touches("reaches " + step, reaching(r(20, 30, 0), step), step, op, 0, 4);
                if (step > -20) touches("reaches " + step, reaching(r(20, 30, 0), step), step - 1, op, 0, 0);
                touches("reaches " + step, reaching(r(20, 30, 0), step), -20, op, 20 + step, 4);
                if (step > -20) touches("reaches " + step, reaching(r(20, 30, 0), step), -20, op, 19 + step, 0);
            }
        }
        // Where the place is less it is one more, also for what is below 0.
        x = movedPacket(r(20, 30, 0), 0);
        Ops.append(x, moving(3, -7), Ops.i(Ops.LT, 3, 2, 0, 17), Ops.exit(), Ops.set(0, 0));
        touches("less", x, -7, Ops.LOAD, 0, 0);
        x = movedPacket(r(20, 30, 0), 0);
        Ops.append(x, moving(3, -7), Ops.i(Ops.LT, 3, 2, 0, 17), Ops.exit(), Ops.set(0, 0));
        touches("less", x, -6, Ops.LOAD, 0, 4);
        inARun();
    }

    /** The words are kept to where a step is so far below the base that it is within what REACHES -9999. */
    private static void reachesNothing() {
        checks.sentence("it REACHES -9999");
        for (int step : new int[] {-9998, -9999, -10000, -10001}) {
            // The base is 10001 at last, of which 8000 are added where the step is -4000.
            PacketFilter x = Ops.with(Ops.set(0, 0), Ops.set(4, 8000), Ops.set(5, 2001), moving(1, -4000), Ops.i(Ops.ADD, 1, 4), moving(1, step + 4000),
                Ops.i(Ops.ADD, 1, 5), Ops.i(Ops.LOAD, 0, 1, 0), Ops.exit());
            boolean within = step + 1 <= -9999;
            wrong("step " + step, x, within ? 0 : 4, 7);
            for (int k = 0; k < 4; k++) x.put(50 + k);
            checks.due("step " + step, x.run(), within ? 50 + 10001 + step : BAD);
        }
    }

    /** A place moved by a byte of the packet, and a byte loaded there. */
    private static void inARun() {
        PacketFilter x = Ops.with(Ops.set(0, 0), Ops.i(Ops.GE, 1, 2, 0, 8), Ops.i(Ops.LOAD, 4, 1, 0), Ops.with(Ops.AND, 4, 15), Ops.i(Ops.ADD, 1, 4),
            Ops.set(0, 200), Ops.i(Ops.GE, 1, 2, 0, 8), Ops.i(Ops.LOAD, 0, 1, 0), Ops.exit());
        checks.due("verify", x.verify(), 0);
        for (int length = 1; length <= 16; length++) {
            for (int at : new int[] {length - 1, length}) {
                x.cut();
                x.put(at);
                for (int k = 1; k < length; k++) x.put(100 + k);
                checks.due("byte " + at + " of " + length, x.run(), at >= length && at < 16 ? 200 : at % 16 == 0 ? at : 100 + at);
            }
        }
    }

    private static void origins() {
        checks.sentence("all PACKETS of its ORIGIN reach its STEP at least");
        // 4 and 3 were moved by one instruction, a slot holds a copy; 1 was not moved.
        int[][] rest = {{4, 0}, {3, 0}, {1, 4}};
        for (int[] each : rest) {
            PacketFilter x = movedPacket(r(0, 8, 0), 0);
            Ops.append(x, Ops.i(Ops.SAVE, 4, 0, 2), moving(3, 1), Ops.i(Ops.LE, 3, 2, 0, 18), Ops.exit(), Ops.move(4, each[0]));
            touches("a place like " + each[0], x, each[0] == 3 ? -1 : 0, Ops.LOAD, 0, each[1]);
        }
        PacketFilter x = movedPacket(r(0, 8, 0), 0);
        Ops.append(x, Ops.i(Ops.SAVE, 4, 0, 2), moving(3, 1), Ops.i(Ops.LE, 3, 2, 0, 18), Ops.exit(), Ops.i(Ops.BACK, 4, 0, 2));
        touches("a copy in a slot", x, 0, Ops.LOAD, 0, 0);
        // Two places moved by the same register, but by two instructions.
        x = movedPacket(r(0, 8, 0), 0);
        Ops.append(x, Ops.i(Ops.ADD, 1, 5), Ops.move(3, 1), moving(3, 1), Ops.i(Ops.LE, 3, 2, 0, 19), Ops.exit());
        touches("another origin", x, 0, Ops.LOAD, 0, 4);
        checks.sentence("of PACKET also an ORIGIN (at first -1)");
        // The first place has an origin, too, which is none of the instructions; number 0 is one.
        x = Ops.with(Ops.set(0, 0), Ops.move(4, 1), Ops.i(Ops.ADD, 1, 0), moving(1, 1), Ops.i(Ops.GT, 1, 2, 0, 31));
        touches("the first place", x, 0, Ops.LOAD, 0, 4);
        // All copies of the first place have it, however far they were moved by constants.
        x = Ops.with(Ops.set(0, 0), Ops.move(4, 1), moving(4, 7), Ops.i(Ops.SAVE, 4, 0, 0), moving(1, 9), Ops.i(Ops.GT, 1, 2, 0, 31), Ops.i(Ops.BACK, 4, 0, 0));
        touches("the first place, moved", x, 0, Ops.LOAD, 1, 0);
        x = Ops.with(Ops.set(0, 0), Ops.move(4, 1), moving(4, 7), Ops.i(Ops.SAVE, 4, 0, 0), moving(1, 9), Ops.i(Ops.GT, 1, 2, 0, 31), Ops.i(Ops.BACK, 4, 0, 0));
        touches("the first place, moved", x, 0, Ops.LOAD, 2, 4);
    }

    /** Wherever a copy is, it is known what the condition tells, and on no other way. */
    private static void allOfOneWay() {
        checks.sentence("all registers and slots with PERHAPS of this ORIGIN");
        forEachCell(true, Ops.EQ, Ops.NE, 3);
        checks.sentence("all PACKETS of its ORIGIN reach its STEP at least; where it is less, one more.");
        forEachCell(false, Ops.GE, Ops.LT, 4);
    }

    /** The way that learns is the one that jumps at first or not, and then the side that leaves or the one that goes on jumps. */
    private static void forEachCell(boolean isPerhaps, int leaving, int goingOn, int wrong) {
        for (int cell = 0; cell < 10; cell++) {
            for (int jumping = 0; jumping <= 1; jumping++) {
                oneWayLearns(isPerhaps, cell, jumping == 1, leaving, 20, wrong);
                oneWayLearns(isPerhaps, cell, jumping == 1, goingOn, 16, wrong);
            }
        }
    }

    /** Two ways hold a copy in this cell; one of them goes by the condition op and then loads from it; the other one leaves, or does without it what is WRONG. */
    private static void oneWayLearns(boolean isPerhaps, int cell, boolean jumping, int op, int to, int wrong) {
        int[] free = new int[3];
        for (int r = 5, k = 0; k < 3; r--) if (r != cell) free[k++] = r;
        int number = free[0], place = free[1], end = free[2];
        int endSlot = cell == 7 ? 2 : 1;
        int[] back = cell < 6 ? Ops.set(number, 0) : Ops.i(Ops.BACK, place, 0, cell - 6);
        int[] load = Ops.i(Ops.LOAD, number, cell < 6 ? cell : place, 3);
        // 17 is the LOAD of the one way, 19 that of both, 21 the EXIT.
        for (int other : new int[] {18, 20}) {
            PacketFilter x = Ops.with(Ops.i(Ops.SAVE, 2, 0, endSlot), isPerhaps ? Ops.set(1, 1) : Ops.set(4, 0), isPerhaps ? Ops.i(Ops.FIND) : Ops.move(0, 1),
                Ops.i(Ops.SAVE, 0, 0, 0), cell > 6 ? Ops.i(Ops.SAVE, 0, 0, cell - 6) : Ops.set(4, 0), Ops.i(Ops.SIZE), Ops.move(number, 0),
                cell < 6 ? Ops.i(Ops.BACK, cell, 0, 0) : Ops.set(place, 0));
            Ops.append(x, Ops.i(jumping ? Ops.EQ : Ops.NE, number, -1, 3, jumping ? 10 : other), jumping ? Ops.jump(other) : Ops.set(number, 0));
            Ops.append(x, Ops.i(Ops.BACK, place, 0, 0), isPerhaps ? Ops.set(number, 0) : moving(place, 3), Ops.i(Ops.BACK, end, 0, endSlot),
                isPerhaps ? Ops.i(op, place, -1, 0, to) : Ops.i(op, place, end, 0, to), to == 16 ? Ops.jump(20) : Ops.set(number, 0), Ops.set(number, 0),
                back, load, back, load, Ops.set(0, 0), Ops.exit());
            wrong("a copy in " + cell + (jumping ? ", jumping, by " : ", staying, by ") + op, x, other == 18 ? wrong : 0, 19);
        }
    }

    private static void placesAtFirst() {
        checks.sentence("of PACKET and ENTRY a RANGE (the BASE; at first 0, 0, 16), an int (the STEP, at first 0)");
        // Whatever the register held before, a number or a place far away, the entry's place is its first byte, and NULL is 0.
        int[][][] before = {{Ops.set(0, 5), Ops.set(0, 6)}, {Ops.move(0, 1), moving(0, 300)}, {Ops.move(0, 1), moving(0, -300)}, {Ops.i(Ops.SIZE), Ops.set(1, 1)}};
        for (int[][] each : before) {
            for (int n = 7; n <= 8; n++) {
                PacketFilter x = Ops.with(each);
                Ops.append(x, Ops.set(1, 1), Ops.i(Ops.FIND), Ops.i(Ops.NE, 0, -1, 0, 6), Ops.exit(), Ops.i(Ops.LOAD, 4, 0, 0), Ops.i(Ops.LOAD2, 4, 0, 6),
                    Ops.i(Ops.LOAD, 0, 0, n), Ops.exit());
                wrong("byte " + n, x, n == 7 ? 0 : 4, 8);
                holds(x, "NULL", 5, 0, r(0, 0, 16));
            }
        }
        for (int op : new int[] {Ops.LOAD, Ops.LOAD2}) touches("PACKET", known(2, Ops.GT), 0, op, 0, 0);
        for (int op : new int[] {Ops.LOAD, Ops.LOAD2}) touches("PACKET", known(2, Ops.GT), -1, op, 0, 4);
    }

    private static void bytesOfAnEntry() {
        checks.sentence("or, for an ENTRY, with hi of the base above 8");
        for (int op : ONE_BYTE) {
            for (int[] each : new int[][] {{0, 7}, {7, 0}, {-1, 8}, {-247, 254}, {-248, 255}, {3, 4}}) {
                touches("ENTRY", entry(), each[0], op, each[1], 0);
                if (each[1] < 255) touches("ENTRY", entry(), each[0], op, each[1] + 1, 4);
                touches("ENTRY", entry(), each[0] + 1, op, each[1], 4);
            }
            for (int high : new int[] {1, 2, 6, 7}) {
                touches("ENTRY, base 0 .. " + high, movedEntry(r(0, high, 0), 0), 0, op, 7 - high, 0);
                touches("ENTRY, base 0 .. " + high, movedEntry(r(0, high, 0), 0), 0, op, 8 - high, 4);
                touches("ENTRY, base 0 .. " + high, movedEntry(r(0, high, 0), 0), 1, op, 7 - high, 4);
            }
            touches("ENTRY, base 0 .. 8", movedEntry(r(0, 8, 0), 0), 0, op, 0, 4);
            touches("ENTRY, base 3 .. 10", movedEntry(r(3, 10, 0), 0), -3, op, 0, 0);
            touches("ENTRY, base 3 .. 11", movedEntry(r(3, 11, 0), 0), -3, op, 0, 4);
            // The base is a range twice, so both its ends are sums: 2 .. 3 and 2 .. 3 is 4 .. 6.
            for (int n : new int[] {0, 1, 2, 3}) {
                PacketFilter x = movedEntry(r(2, 3, 0), 0);
                Ops.append(x, Ops.i(Ops.ADD, 4, 5));
                touches("ENTRY, base 4 .. 6", x, 0, op, n, n <= 1 ? 0 : 4);
                x = movedEntry(r(2, 3, 0), 0);
                Ops.append(x, Ops.i(Ops.ADD, 4, 5));
                touches("ENTRY, base 4 .. 6", x, -5, op, n, n >= 1 ? 0 : 4);
            }
        }
        for (int op : TWO_BYTES) {
            touches("ENTRY", entry(), 0, op, 6, 0);
            touches("ENTRY", entry(), 0, op, 7, 4);
            touches("ENTRY", entry(), 0, op, 8, 4);
            touches("ENTRY", entry(), 6, op, 0, 0);
            touches("ENTRY", entry(), 7, op, 0, 4);
            touches("ENTRY", entry(), -249, op, 255, 0);
            touches("ENTRY", entry(), -248, op, 255, 4);
            touches("ENTRY, base 0 .. 4", movedEntry(r(0, 4, 1), 0), 0, op, 2, 0);
            touches("ENTRY, base 0 .. 4", movedEntry(r(0, 4, 1), 0), 0, op, 3, 4);
            touches("ENTRY, base 0 .. 6", movedEntry(r(0, 6, 1), 0), 0, op, 0, 0);
            touches("ENTRY, base 0 .. 6", movedEntry(r(0, 6, 1), 0), 1, op, 0, 4);
        }
        for (int n = 0; n < 8; n++) {
            PacketFilter x = entry();
            Ops.append(x, Ops.i(Ops.LOAD, 0, 4, n), Ops.set(5, 200), Ops.i(Ops.STORE, 4, 5, 7 - n), Ops.exit());
            checks.due("verify", x.verify(), 0);
            x.enter(3, n, 50 + n);
            checks.due("byte " + n + " of an entry", x.run(), 50 + n);
            checks.due("byte " + n + " of an entry", x.entry(3, 7 - n), 200);
        }
    }

    // ---- 5 and 6

    private static void odd() {
        checks.sentence("5 if for LOAD2 and STORE2 step and n together are odd");
        for (int step = -4; step <= 4; step++) {
            for (int n = 4; n <= 7; n++) {
                int want = (step + n) % 2 == 0 ? 0 : 5;
                for (int op : TWO_BYTES) {
                    if (step + n <= 6) touches("ENTRY", entry(), step, op, n, want);
                    touches("PACKET", known(16, Ops.GT), step, op, n, want);
                }
                for (int op : ONE_BYTE) touches("PACKET, one byte", known(16, Ops.GT), step, op, n, 0);
            }
        }
    }

    private static void oddBase() {
        checks.sentence("or z of the base is 0");
        for (int op : TWO_BYTES) {
            touches("ENTRY, base 0", movedEntry(one(0), 0), 0, op, 0, 0);
            touches("ENTRY, base 1", movedEntry(one(1), 0), 0, op, 0, 5);
            // An odd base and an odd step are an even place, and yet.
            touches("ENTRY, base 1", movedEntry(one(1), 0), 1, op, 0, 5);
            touches("ENTRY, base 1", movedEntry(one(1), 0), -1, op, 0, 5);
            touches("ENTRY, base 2", movedEntry(one(2), 0), 0, op, 0, 0);
            touches("ENTRY, base 0 .. 1", movedEntry(r(0, 1, 0), 0), 0, op, 0, 5);
            touches("ENTRY, base 0 .. 2", movedEntry(r(0, 2, 0), 0), 0, op, 0, 5);
            touches("ENTRY, base 0 and 2", movedEntry(r(0, 2, 1), 0), 0, op, 0, 0);
            touches("ENTRY, base 0 and 4", movedEntry(r(0, 4, 2), 0), 0, op, 0, 0);
            touches("PACKET, base 0 .. 4", reaching(r(0, 4, 0), 2), 0, op, 0, 5);
            touches("PACKET, base 0, 2, 4", reaching(r(0, 4, 1), 2), 0, op, 0, 0);
            touches("PACKET, base 3", reaching(one(3), 2), 0, op, 0, 5);
            touches("PACKET, base 4", reaching(one(4), 2), 0, op, 0, 0);
            // Two odd numbers together are a single even one; of a range nothing is known but z.
            PacketFilter x = movedEntry(one(1), 0);
            Ops.append(x, Ops.i(Ops.ADD, 4, 5));
            touches("ENTRY, base 1 and 1", x, 0, op, 0, 0);
            x = movedEntry(one(3), 0);
            Ops.append(x, Ops.set(5, 2), Ops.i(Ops.ADD, 4, 5));
            touches("ENTRY, base 3 and 2", x, 0, op, 0, 5);
            x = movedEntry(r(0, 2, 1), 0);
            Ops.append(x, Ops.i(Ops.ADD, 4, 5));
            touches("ENTRY, even twice", x, 0, op, 0, 0);
        }
    }

    private static void noInstruction() {
        checks.sentence("6 if there is no instruction.");
        wrong("nothing", new PacketFilter(), 6, 0);
        for (int count = 1; count <= 32; count++) {
            PacketFilter x = new PacketFilter();
            for (int k = 0; k < count - 1; k++) Ops.append(x, Ops.set(0, 0));
            Ops.append(x, Ops.set(0, 0));
            wrong("no EXIT after " + count, x, 6, count);
            for (int i = 0; i < count; i++) checks.due("a way to all", x.bound(i, 1, 0), 2);
            checks.due("not to what is none", x.bound(count, 1, 0), BAD);
            x = new PacketFilter();
            for (int k = 0; k < count - 1; k++) Ops.append(x, Ops.set(0, 0));
            Ops.append(x, Ops.exit());
            wrong("EXIT after " + (count - 1), x, count == 1 ? 1 : 0, 0);
        }
        // To the last instruction, and to the first that is not there.
        for (int to = 3; to <= 30; to++) {
            for (int there = 0; there <= 1; there++) {
                PacketFilter x = Ops.with(Ops.set(0, 0), Ops.jump(to));
                for (int k = 2; k < to; k++) Ops.append(x, Ops.set(0, 0));
                if (there == 1) Ops.append(x, Ops.exit());
                wrong("a jump to " + to, x, there == 1 ? 0 : 6, to);
            }
        }
        lastTarget();
    }

    /** Instruction 31 is the last one that a jump can go to, and it may be there or not. */
    private static void lastTarget() {
        for (int there = 0; there <= 1; there++) {
            PacketFilter x = Ops.with(Ops.set(0, 5), Ops.jump(31));
            for (int k = 2; k < 31; k++) Ops.append(x, Ops.set(0, 0));
            if (there == 1) Ops.append(x, Ops.exit());
            wrong("a jump to 31", x, there == 1 ? 0 : 6, 31);
            checks.due("a jump to 31", x.run(), there == 1 ? 5 : BAD);
            checks.due("a jump to 31", x.ran(1), there == 1 ? 31 : BAD);
        }
        // A side that is not gone comes to nothing.
        PacketFilter x = Ops.with(Ops.set(0, 5), Ops.i(Ops.EQ, 0, -1, 4, 31), Ops.exit());
        wrong("no way there", x, 0, 0);
        x = Ops.with(Ops.set(0, 5), Ops.i(Ops.EQ, 0, -1, 5, 31), Ops.exit());
        wrong("a way there", x, 6, 31);
        x = Ops.with(Ops.set(0, 5), Ops.jump(3), Ops.set(0, 6), Ops.exit());
        wrong("behind a jump", x, 0, 0);
    }

    // ---- The least

    private static void leastOfOneWay() {
        checks.sentence("WRONG is a way at an instruction (the least number counts)");
        int[][] find = {Ops.set(1, 1), Ops.i(Ops.FIND), Ops.move(4, 0), Ops.set(0, 0)};
        PacketFilter x = Ops.with(find);
        Ops.append(x, Ops.i(Ops.ADD, 4, 5));
        wrong("1 and 3", x, 1, 4);
        x = Ops.with(find);
        Ops.append(x, Ops.i(Ops.STORE, 4, 4, 0));
        wrong("2 and 3", x, 2, 4);
        x = Ops.with(find);
        Ops.append(x, Ops.i(Ops.STORE, 4, 3, 0));
        wrong("1 and 3 of STORE", x, 1, 4);
        wrong("1 and 2", Ops.with(Ops.i(Ops.ADD, 2, 4)), 1, 0);
        wrong("1 and 2, the other way round", Ops.with(Ops.i(Ops.ADD, 4, 2)), 1, 0);
        wrong("1 and 4", Ops.with(Ops.i(Ops.STORE, 1, 4, 0)), 1, 0);
        wrong("2 and 4", Ops.with(Ops.i(Ops.STORE, 1, 2, 0)), 2, 0);
        wrong("2 and 5", Ops.with(Ops.i(Ops.STORE2, 1, 1, 1)), 2, 0);
        wrong("4 and 5", Ops.with(Ops.i(Ops.LOAD2, 0, 1, 1)), 4, 0);
        x = entry();
        Ops.append(x, Ops.i(Ops.LOAD2, 0, 4, 7));
        wrong("4 and 5 of an entry", x, 4, 7);
    }

    /** What makes LOAD2 of register 4 WRONG in this way, or good for 0. */
    private static int[] making(int wrong) {
        switch (wrong) {
            case 0: return Ops.i(Ops.BACK, 4, 0, 3);
            case 1: return Ops.set(0, 0);
            case 2: return Ops.set(4, 0);
            case 3: return Ops.i(Ops.BACK, 4, 0, 1);
            case 4: return Ops.i(Ops.BACK, 4, 0, 0);
            default: return Ops.i(Ops.BACK, 4, 0, 2);
        }
    }

    private static void leastOfTwoWays() {
        checks.sentence("the least of what is WRONG there (1 .. 6)");
        int[] kinds = {4, 0, 1, 5, 2, 4};
        for (int a = 0; a <= 5; a++) {
            for (int b = 0; b <= 5; b++) {
                PacketFilter x = Ops.with(Ops.i(Ops.SAVE, 1, 0, 0), Ops.set(1, 0), Ops.i(Ops.FIND), Ops.i(Ops.SAVE, 0, 0, 1), Ops.set(1, 0), Ops.i(Ops.FIND),
                    Ops.i(Ops.NE, 0, -1, 0, 8), Ops.exit(), Ops.i(Ops.SAVE, 0, 0, 3), moving(0, 1), Ops.i(Ops.SAVE, 0, 0, 2), Ops.i(Ops.SIZE),
                    Ops.i(Ops.EQ, 0, -1, 5, 15), making(b), Ops.jump(16), making(a), Ops.i(Ops.LOAD2, 5, 4, 0), Ops.exit());
                int least = a == 0 ? b : b == 0 ? a : Math.min(a, b);
                wrong("ways with " + a + " and " + b, x, least, 16);
                checks.due("kinds of " + a + " and " + b, x.bound(16, 4, 0), kinds[a] == kinds[b] ? kinds[a] : 6);
            }
        }
    }

    private static void leastInstruction() {
        checks.sentence("of the instructions with a WRONG way the least counts");
        // 5 stands before 1, 4 before 2, and a number that is less before what is not there.
        PacketFilter x = entry();
        Ops.append(x, Ops.i(Ops.LOAD2, 0, 4, 1), Ops.i(Ops.MOVE, 0, 3), Ops.exit());
        wrong("5 before 1", x, 5, 7);
        x = Ops.with(Ops.i(Ops.SAVE, 1, 0, 0), Ops.i(Ops.SIZE), Ops.i(Ops.EQ, 0, -1, 1, 6), Ops.i(Ops.BACK, 4, 0, 0), Ops.i(Ops.LOAD, 0, 4, 0), Ops.exit(),
            Ops.i(Ops.MOVE, 0, 5));
        wrong("4 on one way before 1 on the other", x, 4, 4);
        x = Ops.with(Ops.i(Ops.SIZE), Ops.i(Ops.EQ, 0, -1, 1, 31), Ops.set(0, 1), Ops.i(Ops.MOVE, 0, 5));
        wrong("1 before 6", x, 1, 3);
        x = Ops.with(Ops.i(Ops.SIZE), Ops.i(Ops.EQ, 0, -1, 1, 20), Ops.i(Ops.EQ, 0, -1, 2, 19), Ops.i(Ops.EQ, 0, -1, 3, 21), Ops.exit());
        wrong("three ways to nothing", x, 6, 19);
        // The way that jumps is the one that is WRONG first, and then the one that stays.
        x = Ops.with(Ops.i(Ops.SIZE), Ops.i(Ops.EQ, 0, -1, 1, 3), Ops.jump(5), Ops.i(Ops.MOVE, 0, 5), Ops.exit(), Ops.i(Ops.MOVE, 0, 4));
        wrong("the jumping way", x, 1, 3);
        x = Ops.with(Ops.i(Ops.SIZE), Ops.i(Ops.EQ, 0, -1, 1, 5), Ops.jump(3), Ops.i(Ops.MOVE, 0, 5), Ops.exit(), Ops.i(Ops.MOVE, 0, 4));
        wrong("the staying way", x, 1, 3);
    }
}
