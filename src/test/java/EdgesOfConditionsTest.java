/** The edges that the document's terms name of conditions: when they jump, what each side leaves, and which side is not gone. */
public final class EdgesOfConditionsTest extends Ranges {
    private static final int BAD = PacketFilter.BAD;

    public static void main(String[] args) {
        whenTheyJump();
        endsOfAllNumbers();
        emptySides();
        bothAreKept();
        nothingOfAConstant();
        equal();
        different();
        less();
        lessOrEqual();
        turned();
        bitsInCommon();
        noBitsInCommon();
        perhaps();
        originOfFind();
        placesAndEnd();
        allWays();
        checks.end();
    }

    // ---- In a run

    private static boolean isSo(int op, int a, int b) {
        boolean[] all = {a == b, a != b, a < b, a <= b, a > b, a >= b, (a & b) != 0};
        return all[op - Ops.EQ];
    }

    /** 1 if it jumps, else 0, for two numbers that are known, and for two of the packet. */
    private static void jumps(int op, int a, int b) {
        boolean want = isSo(op, a, b);
        String call = a + " op " + op + " " + b;
        for (int constant = 0; constant <= 1; constant++) {
            int[] condition = constant == 1 ? Ops.i(op, 4, -1, b, 10) : Ops.i(op, 4, 5, 0, 10);
            int[][] rest = {condition, Ops.set(0, 0), Ops.exit(), Ops.set(0, 1), Ops.exit()};
            PacketFilter x = Ops.with(Ops.set(0, 9), Ops.set(0, 9), Ops.set(0, 9), Ops.set(0, 9), Ops.set(0, 9), Ops.set(4, a), Ops.set(5, b));
            Ops.append(x, rest);
            checks.due(call, x.verify(), 0);
            checks.due(call + " known", x.decided(7), want ? 1 : 2);
            checks.due(call + " known", x.run(), want ? 1 : 0);
            x = Ops.with(Ops.set(0, 9), Ops.move(4, 1), Ops.with(Ops.ADD, 4, 4), Ops.i(Ops.GT, 4, 2, 0, 11), Ops.i(Ops.LOAD2, 4, 1, 0),
                Ops.i(Ops.LOAD2, 5, 1, 2), Ops.set(0, 9));
            Ops.append(x, rest);
            for (int v : new int[] {a, a >> 8, b, b >> 8}) x.put(v);
            checks.due(call, x.verify(), 0);
            checks.due(call + " of the packet", x.run(), want ? 1 : 0);
        }
    }

    private static void whenTheyJump() {
        checks.sentence("CONDITIONS, which jump to if it is so: 22 d = X   23 d and X differ   24 d < X   25 d <= X   26 d > X   27 d >= X");
        int[][] pairs = {{0, 0}, {0, 1}, {1, 0}, {255, 256}, {256, 255}, {256, 256}, {32767, 32768}, {32768, 32767}, {32768, 32768}, {65534, 65535},
            {65535, 65534}, {65535, 65535}, {0, 65535}, {65535, 0}};
        for (int op = Ops.EQ; op <= Ops.GE; op++) {
            for (int[] each : pairs) jumps(op, each[0], each[1]);
        }
        checks.sentence("28 d AND X is not 0");
        int[][] masks = {{0, 0}, {0, 65535}, {65535, 0}, {1, 1}, {1, 2}, {2, 1}, {3, 2}, {32768, 32768}, {32768, 32767}, {32767, 32768}, {65535, 32768},
            {65535, 1}, {254, 1}, {255, 1}};
        for (int[] each : masks) jumps(Ops.BITS, each[0], each[1]);
    }

    // ---- What each side leaves

    private static void endsOfAllNumbers() {
        // So none is less than 0 or above 65535, and none that is left is.
        checks.sentence("NUMBERS are 0 .. 65535");
        int[] all = r(0, 65535, 0), zero = r(0, 0, 16), top = one65535();
        leaves(Ops.LT, all, one(0), null, left(all, zero));
        leaves(Ops.LT, all, one(1), left(zero, one(1)), left(r(1, 65535, 0), one(1)));
        leaves(Ops.GE, all, one(0), left(all, zero), null);
        leaves(Ops.GE, all, one(1), left(r(1, 65535, 0), one(1)), left(zero, one(1)));
        leaves(Ops.GT, all, top, null, left(all, top));
        leaves(Ops.GT, all, one(65534), left(top, r(65534, 65534, 1)), left(r(0, 65534, 0), r(65534, 65534, 1)));
        leaves(Ops.LE, all, top, left(all, top), null);
        leaves(Ops.LE, all, one(65534), left(r(0, 65534, 0), r(65534, 65534, 1)), left(top, r(65534, 65534, 1)));
    }

    private static void emptySides() {
        checks.sentence("a side is not gone if one is EMPTY");
        int[] low = r(2, 9, 0), eights = r(0, 64, 3);
        // The ranges touch, and then they do not.
        leaves(Ops.EQ, low, r(9, 12, 0), left(r(9, 9, 0), r(9, 9, 0)), left(low, r(9, 12, 0)));
        leaves(Ops.EQ, low, r(10, 12, 0), null, left(low, r(10, 12, 0)));
        leaves(Ops.EQ, low, r(0, 2, 0), left(r(2, 2, 1), r(2, 2, 1)), left(low, r(0, 2, 0)));
        leaves(Ops.EQ, low, r(0, 1, 0), null, left(low, r(0, 1, 0)));
        // Between two multiples of 8, where one of them is, and where none is.
        leaves(Ops.EQ, eights, r(8, 15, 0), left(r(8, 8, 3), r(8, 8, 3)), left(eights, r(8, 15, 0)));
        leaves(Ops.EQ, eights, r(9, 15, 0), null, left(eights, r(9, 15, 0)));
        leaves(Ops.EQ, eights, r(9, 16, 0), left(r(16, 16, 4), r(16, 16, 4)), left(eights, r(9, 16, 0)));
        leaves(Ops.LT, low, r(1, 3, 0), left(r(2, 2, 1), r(3, 3, 0)), left(low, r(1, 3, 0)));
        leaves(Ops.LT, low, r(1, 2, 0), null, left(low, r(1, 2, 0)));
        leaves(Ops.LE, low, r(1, 2, 0), left(r(2, 2, 1), r(2, 2, 1)), left(low, r(1, 2, 0)));
        leaves(Ops.LE, low, r(0, 1, 0), null, left(low, r(0, 1, 0)));
        leaves(Ops.GT, low, r(8, 12, 0), left(r(9, 9, 0), r(8, 8, 3)), left(low, r(8, 12, 0)));
        leaves(Ops.GT, low, r(9, 12, 0), null, left(low, r(9, 12, 0)));
        leaves(Ops.GE, low, r(9, 12, 0), left(r(9, 9, 0), r(9, 9, 0)), left(low, r(9, 12, 0)));
        leaves(Ops.GE, low, r(10, 12, 0), null, left(low, r(10, 12, 0)));
        leaves(Ops.BITS, r(1, 8, 0), one(7), left(r(1, 8, 0), one(7)), left(r(8, 8, 3), one(7)));
        leaves(Ops.BITS, r(1, 7, 0), one(7), left(r(1, 7, 0), one(7)), null);
    }

    private static void bothAreKept() {
        checks.sentence("goes on with what is left, on each of its two sides, of both");
        // Only the two registers, not a copy of one of them.
        PacketFilter x = withRanges(r(0, 20, 0), r(5, 30, 0));
        Ops.append(x, Ops.i(Ops.SAVE, 4, 0, 0), Ops.i(Ops.SAVE, 5, 0, 1), Ops.i(Ops.EQ, 4, 5, 0, JUMPED), Ops.jump(LEAVE));
        fill(x);
        holds(x, "the first one", JUMPED, 4, r(5, 20, 0));
        holds(x, "the second one", JUMPED, 5, r(5, 20, 0));
        holds(x, "a copy of the first one", JUMPED, 6, r(0, 20, 0));
        holds(x, "a copy of the second one", JUMPED, 7, r(5, 30, 0));
        leaves(Ops.EQ, r(0, 20, 0), r(5, 30, 0), left(r(5, 20, 0), r(5, 20, 0)), left(r(0, 20, 0), r(5, 30, 0)));
        leaves(Ops.LT, r(7, 40, 0), r(5, 30, 0), left(r(7, 29, 0), r(8, 30, 0)), left(r(7, 40, 0), r(5, 30, 0)));
        leaves(Ops.GT, r(5, 30, 0), r(7, 40, 0), left(r(8, 30, 0), r(7, 29, 0)), left(r(5, 30, 0), r(7, 40, 0)));
    }

    private static void nothingOfAConstant() {
        checks.sentence("(of a constant nothing is kept)");
        for (int op = Ops.EQ; op <= Ops.BITS; op++) {
            // Register 5 holds the same number as the constant, but it is not asked about.
            PacketFilter x = withRanges(r(0, 20, 0), r(5, 30, 0));
            Ops.append(x, Ops.i(op, 4, -1, 7, JUMPED), Ops.jump(LEAVE));
            fill(x);
            holds(x, "register 5 where " + op + " jumps", JUMPED, 5, r(5, 30, 0));
            holds(x, "register 5 where " + op + " stays", AT + 1, 5, r(5, 30, 0));
        }
    }

    private static void equal() {
        checks.sentence("EQUAL: both are the greater lo, the lesser hi, the greater z.");
        int[][][] cases = {
            {r(2, 9, 0), r(3, 8, 0), r(3, 8, 0)}, {r(3, 8, 0), r(2, 9, 0), r(3, 8, 0)}, {r(2, 8, 0), r(3, 9, 0), r(3, 8, 0)},
            {r(0, 64, 3), r(0, 64, 4), r(0, 64, 4)}, {r(0, 64, 3), r(1, 63, 0), r(8, 56, 3)}, {r(1, 63, 0), r(0, 64, 3), r(8, 56, 3)},
            {r(0, 65535, 0), r(0, 65535, 0), r(0, 65535, 0)}, {r(0, 65535, 0), r(0, 32768, 15), r(0, 32768, 15)},
            {r(0, 65535, 0), one65535(), one65535()}, {r(0, 65535, 0), one(0), r(0, 0, 16)}};
        for (int[][] each : cases) {
            PacketFilter x = withRanges(each[0], each[1]);
            Ops.append(x, Ops.i(Ops.EQ, 4, 5, 0, JUMPED), Ops.jump(LEAVE));
            fill(x);
            PacketFilter y = withRanges(each[0], each[1]);
            Ops.append(y, Ops.i(Ops.NE, 4, 5, 0, JUMPED), Ops.jump(LEAVE));
            fill(y);
            for (int register = 4; register <= 5; register++) {
                holds(x, name(Ops.EQ, each[0], each[1]), JUMPED, register, each[2]);
                holds(y, name(Ops.NE, each[0], each[1]), AT + 1, register, each[2]);
            }
        }
    }

    /** What is left of the range where it is not the number, told by either condition, the range first or second. */
    private static void isLeftWithout(int[] range, int number, int[] want) {
        for (int op = Ops.EQ; op <= Ops.NE; op++) {
            for (int first = 4; first <= 5; first++) {
                PacketFilter x = withRanges(range, one(number));
                Ops.append(x, Ops.i(op, first, 9 - first, 0, JUMPED), Ops.jump(LEAVE));
                fill(x);
                String name = range[0] + " .. " + range[1] + " without " + number;
                int at = op == Ops.EQ ? AT + 1 : JUMPED;
                holds(x, name, at, 4, want);
                checks.due(name + ": the number", x.bound(at, 5, 1), number);
                checks.due(name + ": the number", x.bound(at, 5, 2), number);
            }
        }
    }

    private static void different() {
        checks.sentence("NOT EQUAL: if y is a single number that is the lo of x, that is 2^z more, if it is its hi (as it was), that is 2^z less; "
            + "the same for y and x as they were.");
        isLeftWithout(r(2, 9, 0), 1, r(2, 9, 0));
        isLeftWithout(r(2, 9, 0), 2, r(3, 9, 0));
        isLeftWithout(r(2, 9, 0), 3, r(2, 9, 0));
        isLeftWithout(r(2, 9, 0), 8, r(2, 9, 0));
        isLeftWithout(r(2, 9, 0), 9, r(2, 8, 0));
        isLeftWithout(r(2, 9, 0), 10, r(2, 9, 0));
        isLeftWithout(r(8, 64, 3), 8, r(16, 64, 3));
        isLeftWithout(r(8, 64, 3), 64, r(8, 56, 3));
        isLeftWithout(r(8, 64, 3), 9, r(8, 64, 3));
        isLeftWithout(r(0, 65535, 0), 0, r(1, 65535, 0));
        isLeftWithout(r(0, 65535, 0), 65535, r(0, 65534, 0));
        isLeftWithout(r(0, 32768, 15), 0, r(32768, 32768, 15));
        isLeftWithout(r(0, 32768, 15), 32768, r(0, 0, 16));
        isLeftWithout(r(8, 16, 3), 8, r(16, 16, 4));
        isLeftWithout(r(7, 8, 0), 8, r(7, 7, 0));
        // Of two ranges that are both wider nothing is left away, even where they have an end in common.
        leaves(Ops.NE, r(2, 9, 0), r(2, 9, 0), left(r(2, 9, 0), r(2, 9, 0)), left(r(2, 9, 0), r(2, 9, 0)));
        leaves(Ops.NE, r(2, 9, 0), r(9, 10, 0), left(r(2, 9, 0), r(9, 10, 0)), left(r(9, 9, 0), r(9, 9, 0)));

        checks.sentence("(None is gone if both are the same single number.)");
        for (int v : new int[] {0, 1, 8, 65535}) {
            int[] kept = v == 0 ? r(0, 0, 16) : v == 8 ? r(8, 8, 3) : one(v);
            leaves(Ops.NE, one(v), one(v), null, left(kept, kept));
            leaves(Ops.EQ, one(v), one(v), left(kept, kept), null);
        }
        leaves(Ops.NE, one(7), one(9), left(one(7), one(9)), null);
        leaves(Ops.EQ, one(7), one(9), null, left(one(7), one(9)));
    }

    private static void less() {
        checks.sentence("LESS (x < y): the hi of x at most that of y - 1, the lo of y at least that of x + 1.");
        int[] x = r(4, 20, 0);
        leaves(Ops.LT, x, r(0, 22, 0), left(x, r(5, 22, 0)), left(x, r(0, 20, 0)));
        leaves(Ops.LT, x, r(0, 21, 0), left(x, r(5, 21, 0)), left(x, r(0, 20, 0)));
        leaves(Ops.LT, x, r(0, 20, 0), left(r(4, 19, 0), r(5, 20, 0)), left(x, r(0, 20, 0)));
        leaves(Ops.LT, x, r(4, 30, 0), left(x, r(5, 30, 0)), left(x, r(4, 20, 0)));
        leaves(Ops.LT, x, r(5, 30, 0), left(x, r(5, 30, 0)), left(r(5, 20, 0), r(5, 20, 0)));
        leaves(Ops.LT, x, r(6, 30, 0), left(x, r(6, 30, 0)), left(r(6, 20, 0), r(6, 20, 0)));
        leaves(Ops.LT, x, r(20, 30, 0), left(x, r(20, 30, 0)), left(r(20, 20, 2), r(20, 20, 2)));
        leaves(Ops.LT, x, r(21, 30, 0), left(x, r(21, 30, 0)), null);
        leaves(Ops.LT, x, one(5), left(r(4, 4, 2), one(5)), left(r(5, 20, 0), one(5)));
        leaves(Ops.LT, x, one(4), null, left(x, r(4, 4, 2)));
        leaves(Ops.LT, r(0, 64, 3), one(57), left(r(0, 56, 3), one(57)), left(r(64, 64, 6), one(57)));
        leaves(Ops.LT, r(0, 64, 3), one(56), left(r(0, 48, 3), r(56, 56, 3)), left(r(56, 64, 3), r(56, 56, 3)));
    }

    private static void lessOrEqual() {
        checks.sentence("LESS OR EQUAL: the hi of x at most that of y, the lo of y at least that of x.");
        int[] x = r(4, 20, 0);
        leaves(Ops.LE, x, r(0, 21, 0), left(x, r(4, 21, 0)), left(x, r(0, 19, 0)));
        leaves(Ops.LE, x, r(0, 20, 0), left(x, r(4, 20, 0)), left(x, r(0, 19, 0)));
        leaves(Ops.LE, x, r(0, 19, 0), left(r(4, 19, 0), r(4, 19, 0)), left(x, r(0, 19, 0)));
        leaves(Ops.LE, x, r(4, 30, 0), left(x, r(4, 30, 0)), left(r(5, 20, 0), r(4, 19, 0)));
        leaves(Ops.LE, x, r(5, 30, 0), left(x, r(5, 30, 0)), left(r(6, 20, 0), r(5, 19, 0)));
        leaves(Ops.LE, x, r(19, 30, 0), left(x, r(19, 30, 0)), left(r(20, 20, 2), r(19, 19, 0)));
        leaves(Ops.LE, x, r(20, 30, 0), left(x, r(20, 30, 0)), null);
        leaves(Ops.LE, x, one(4), left(r(4, 4, 2), r(4, 4, 2)), left(r(5, 20, 0), r(4, 4, 2)));
        leaves(Ops.LE, x, one(3), null, left(x, one(3)));
        leaves(Ops.LE, r(0, 64, 3), one(56), left(r(0, 56, 3), r(56, 56, 3)), left(r(64, 64, 6), r(56, 56, 3)));
        leaves(Ops.LE, r(0, 64, 3), one(55), left(r(0, 48, 3), one(55)), left(r(56, 64, 3), one(55)));
    }

    private static void turned() {
        checks.sentence("26, 27 and the other sides of 24 to 27 are these, turned.");
        int[] x = r(4, 20, 0);
        leaves(Ops.GT, x, one(20), null, left(x, r(20, 20, 2)));
        leaves(Ops.GT, x, one(19), left(r(20, 20, 2), one(19)), left(r(4, 19, 0), one(19)));
        leaves(Ops.GT, x, one(4), left(r(5, 20, 0), r(4, 4, 2)), left(r(4, 4, 2), r(4, 4, 2)));
        leaves(Ops.GT, x, one(3), left(x, one(3)), null);
        leaves(Ops.GE, x, one(21), null, left(x, one(21)));
        leaves(Ops.GE, x, one(20), left(r(20, 20, 2), r(20, 20, 2)), left(r(4, 19, 0), r(20, 20, 2)));
        leaves(Ops.GE, x, one(5), left(r(5, 20, 0), one(5)), left(r(4, 4, 2), one(5)));
        leaves(Ops.GE, x, one(4), left(x, r(4, 4, 2)), null);
        leaves(Ops.GT, x, r(0, 30, 0), left(x, r(0, 19, 0)), left(x, r(4, 30, 0)));
        leaves(Ops.GE, x, r(0, 30, 0), left(x, r(0, 20, 0)), left(x, r(5, 30, 0)));
        leaves(Ops.GT, x, r(10, 12, 0), left(r(11, 20, 0), r(10, 12, 0)), left(r(4, 12, 0), r(10, 12, 0)));
        leaves(Ops.GE, x, r(10, 12, 0), left(r(10, 20, 0), r(10, 12, 0)), left(r(4, 11, 0), r(10, 12, 0)));
    }

    private static void bitsInCommon() {
        checks.sentence("28: not gone if the hi of one is 0, or both are single numbers that have no bit in common; nothing is known then.");
        int[] x = r(0, 9, 0);
        int[] zero = r(0, 0, 16);
        leaves(Ops.BITS, x, one(0), null, left(x, zero));
        leaves(Ops.BITS, one(0), x, null, left(zero, x));
        leaves(Ops.BITS, one(0), one(0), null, left(zero, zero));
        leaves(Ops.BITS, r(0, 1, 0), r(0, 1, 0), left(r(0, 1, 0), r(0, 1, 0)), left(r(0, 1, 0), r(0, 1, 0)));
        leaves(Ops.BITS, one(5), one(2), null, left(one(5), r(2, 2, 1)));
        leaves(Ops.BITS, one(5), one(4), left(one(5), r(4, 4, 2)), null);
        // A range and a number that have no bit in common, or a range all of which has one: it is not looked at so closely.
        leaves(Ops.BITS, r(8, 15, 0), one(16), left(r(8, 15, 0), r(16, 16, 4)), left(r(8, 15, 0), r(16, 16, 4)));
        leaves(Ops.BITS, r(8, 15, 0), one(8), left(r(8, 15, 0), r(8, 8, 3)), left(r(8, 15, 0), r(8, 8, 3)));
        leaves(Ops.BITS, r(0, 64, 3), one(7), left(r(0, 64, 3), one(7)), left(r(0, 64, 3), one(7)));
        leaves(Ops.BITS, one(7), r(8, 16, 3), left(one(7), r(8, 16, 3)), left(one(7), r(8, 16, 3)));
    }

    private static void noBitsInCommon() {
        checks.sentence("Its other side: not gone if both are single numbers with a bit in common");
        leaves(Ops.BITS, one(1), one(1), left(one(1), one(1)), null);
        leaves(Ops.BITS, one(1), r(2, 2, 0), null, left(one(1), r(2, 2, 1)));
        leaves(Ops.BITS, one(32768), one65535(), left(r(32768, 32768, 15), one65535()), null);
        leaves(Ops.BITS, one(3), r(3, 4, 0), left(one(3), r(3, 4, 0)), left(one(3), r(3, 4, 0)));

        checks.sentence("if y is a single 2^k - 1 above 0, z of x is at least k, then it is TRIMMED.");
        int[] all = r(0, 65535, 0);
        for (int k = 1; k <= 16; k++) {
            int mask = (1 << k) - 1;
            int top = 65536 - (1 << k);
            leaves(Ops.BITS, all, one(mask), left(all, one(mask)), left(r(0, top, k), one(mask)));
        }
        // Numbers beside those: 0, 2^k, 2^k - 2.
        for (int mask : new int[] {2, 4, 5, 6, 8, 14, 32768, 65534}) {
            int[] number = {mask, mask, Integer.numberOfTrailingZeros(mask)};
            leaves(Ops.BITS, all, one(mask), left(all, number), left(all, number));
        }
        leaves(Ops.BITS, r(1, 20, 0), one(3), left(r(1, 20, 0), one(3)), left(r(4, 20, 2), one(3)));
        leaves(Ops.BITS, r(0, 64, 3), one(15), left(r(0, 64, 3), one(15)), left(r(0, 64, 4), one(15)));
        leaves(Ops.BITS, r(0, 64, 4), one(7), left(r(0, 64, 4), one(7)), left(r(0, 64, 4), one(7)));
        leaves(Ops.BITS, r(1, 20, 0), one(15), left(r(1, 20, 0), one(15)), left(r(16, 16, 4), one(15)));
        leaves(Ops.BITS, r(1, 20, 0), one(31), left(r(1, 20, 0), one(31)), null);
        leaves(Ops.BITS, r(1, 65535, 0), one65535(), left(r(1, 65535, 0), one65535()), null);
        // It is said of x alone.
        leaves(Ops.BITS, one(7), r(1, 20, 0), left(one(7), r(1, 20, 0)), left(one(7), r(1, 20, 0)));
        leaves(Ops.BITS, r(1, 20, 0), r(7, 8, 0), left(r(1, 20, 0), r(7, 8, 0)), left(r(1, 20, 0), r(7, 8, 0)));
    }

    // ---- Entries and the end

    private static void perhaps() {
        checks.sentence("22 and 23 of PERHAPS with the constant 0: on the side where it is 0 all registers and slots with PERHAPS of this ORIGIN are the NUMBER 0, "
            + "on the other one they are ENTRY.");
        for (int op = Ops.EQ; op <= Ops.NE; op++) {
            // Of the first FIND in 4, 5 and all slots but one; of the second in that one and in 0.
            PacketFilter x = Ops.with(Ops.set(1, 7), Ops.i(Ops.FIND), Ops.move(4, 0), Ops.move(5, 4), Ops.i(Ops.SAVE, 0, 0, 0), Ops.i(Ops.SAVE, 0, 0, 1),
                Ops.i(Ops.SAVE, 0, 0, 3), Ops.set(1, 7), Ops.i(Ops.FIND), Ops.i(Ops.SAVE, 0, 0, 2), Ops.i(op, 4, -1, 0, JUMPED), Ops.set(0, 1), Ops.jump(LEAVE));
            while (x.code(Ops.SET, 0, 0, 2, 0) < LEAVE - 1) continue;
            Ops.append(x, Ops.exit());
            checks.due("verify", x.verify(), 0);
            checks.due("both sides are gone", x.decided(10), 3);
            int isNull = op == Ops.EQ ? JUMPED : 11, isEntry = 31 - isNull;
            for (int at : new int[] {4, 5, 6, 7, 9}) {
                holds(x, "NULL in " + at, isNull, at, r(0, 0, 16));
                checks.due("an entry in " + at, x.bound(isEntry, at, 0), 4);
            }
            for (int at : new int[] {0, 8}) {
                checks.due("the other one", x.bound(isNull, at, 0), 5);
                checks.due("the other one", x.bound(isEntry, at, 0), 5);
            }
            int exitOfNull = op == Ops.EQ ? 2 : 1;
            checks.due("no entry", x.run(), exitOfNull);
            x.enter(7, 0, 0);
            checks.due("an entry of bytes that are 0", x.run(), 3 - exitOfNull);
        }
    }

    private static void originOfFind() {
        checks.sentence("FIND PERHAPS with this instruction as ORIGIN");
        // The same number is looked for twice, so it is the same entry, but what is known of the one is not known of the other.
        for (int settled = 4; settled <= 5; settled++) {
            for (int loaded = 4; loaded <= 5; loaded++) {
                PacketFilter x = Ops.with(Ops.set(1, 7), Ops.i(Ops.FIND), Ops.move(4, 0), Ops.set(1, 7), Ops.i(Ops.FIND), Ops.move(5, 0), Ops.set(0, 0),
                    Ops.i(Ops.EQ, settled, -1, 0, 9), Ops.i(Ops.LOAD, 0, loaded, 7), Ops.exit());
                checks.due("verify", x.verify(), settled == loaded ? 0 : 3);
                checks.due("place", x.place(), settled == loaded ? BAD : 8);
            }
        }
    }

    /** What verify() answers to a LOAD of byte n of the packet's first place, on the side where this condition jumps and on the other one. */
    private static void reaches(int step, int[] condition, int jumping, int staying) {
        for (int side = 0; side <= 1; side++) {
            int most = side == 1 ? jumping : staying;
            for (int n = 0; n <= step + 2; n++) {
                PacketFilter x = Ops.with(Ops.set(0, 0), Ops.move(4, 1), Ops.with(Ops.ADD, 4, step), condition);
                if (side == 1) Ops.append(x, Ops.exit(), Ops.i(Ops.LOAD, 0, 1, n), Ops.exit());
                else Ops.append(x, Ops.i(Ops.LOAD, 0, 1, n), Ops.exit());
                String call = java.util.Arrays.toString(condition) + " of " + step + ", side " + side + ", byte " + n;
                checks.due(call, x.verify(), n < most ? 0 : 4);
                checks.due(call + ": both sides are gone", x.decided(3), 3);
            }
        }
    }

    private static void placesAndEnd() {
        checks.sentence("24 to 27 of a PACKET and END (either first): where the place is at most END, all PACKETS of its ORIGIN reach its STEP at least; "
            + "where it is less, one more. Both sides are gone.");
        for (int step : new int[] {0, 1, 4, 15, 16, 17}) {
            // Where it stays the next instruction is the LOAD and the EXIT is 5; where it jumps the LOAD is 5.
            reaches(step, Ops.i(Ops.LT, 4, 2, 0, 5), step + 1, 0);
            reaches(step, Ops.i(Ops.LE, 4, 2, 0, 5), step, 0);
            reaches(step, Ops.i(Ops.GT, 4, 2, 0, 5), 0, step);
            reaches(step, Ops.i(Ops.GE, 4, 2, 0, 5), 0, step + 1);
            reaches(step, Ops.i(Ops.GT, 2, 4, 0, 5), step + 1, 0);
            reaches(step, Ops.i(Ops.GE, 2, 4, 0, 5), step, 0);
            reaches(step, Ops.i(Ops.LT, 2, 4, 0, 5), 0, step);
            reaches(step, Ops.i(Ops.LE, 2, 4, 0, 5), 0, step + 1);
        }
        for (int length = 0; length <= 16; length++) {
            for (int step : new int[] {length - 1, length, length + 1}) {
                for (int op = Ops.LT; op <= Ops.GE; op++) {
                    comparesInARun(length, step, Ops.i(op, 4, 2, 0, 5), isSo(op, step, length));
                    comparesInARun(length, step, Ops.i(op, 2, 4, 0, 5), isSo(op, length, step));
                }
            }
        }
    }

    private static void comparesInARun(int length, int step, int[] condition, boolean want) {
        int[] moving = step < 0 ? Ops.with(Ops.SUB, 4, -step) : Ops.with(Ops.ADD, 4, step);
        PacketFilter x = Ops.with(Ops.set(0, 0), Ops.move(4, 1), moving, condition, Ops.exit(), Ops.set(0, 1), Ops.exit());
        for (int k = 0; k < length; k++) x.put(0);
        checks.due("verify", x.verify(), 0);
        checks.due("place " + step + ", " + length + " bytes, " + java.util.Arrays.toString(condition), x.run(), want ? 1 : 0);
    }

    /** Each of five conditions leaves two sides: a number of each of the 32 ways is looked for, and one that none has. */
    private static void allWays() {
        checks.sentence("Follows all ways");
        for (int number = 0; number <= 32; number++) {
            PacketFilter x = Ops.with(Ops.i(Ops.SAVE, 1, 0, 0), Ops.i(Ops.CLOCK), Ops.move(4, 0), Ops.set(5, 0));
            for (int k = 0; k < 5; k++) Ops.append(x, Ops.i(Ops.BITS, 4, -1, 1 << k, 6 + 2 * k), Ops.with(Ops.ADD, 5, 1 << k));
            // Only on the way with this number is 0 less 1 reckoned, which is too far for a place.
            Ops.append(x, Ops.with(Ops.XOR, 5, number), Ops.with(Ops.SUB, 5, 1), Ops.i(Ops.BACK, 1, 0, 0), Ops.i(Ops.ADD, 1, 5), Ops.exit());
            checks.due("the way " + number, x.verify(), number < 32 ? 4 : 0);
            checks.due("the way " + number, x.place(), number < 32 ? 17 : BAD);
            for (int k = 0; k < 5; k++) checks.due("both sides of " + k, x.decided(4 + 2 * k), 3);
            holds(x, "all ways together", 14, 5, r(0, 31, 0));
        }
    }
}
