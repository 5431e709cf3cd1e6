/** What operations make of ranges and what conditions leave of them, by the words of the document's terms. */
public final class RangesTest extends Ranges {
    public static void main(String[] args) {
        sums();
        products();
        bits();
        shifts();
        constants();
        singles();
        equal();
        different();
        order();
        bitsInCommon();
        loads();
        checks.end();
    }

    private static void sums() {
        makes(Ops.ADD, r(1, 5, 0), r(10, 20, 0), r(11, 25, 0));
        makes(Ops.ADD, r(0, 8, 3), one(4), r(4, 12, 2));
        makes(Ops.ADD, r(0, 8, 3), one(0), r(0, 8, 3));
        makes(Ops.ADD, r(60000, 60010, 0), r(6000, 6010, 0), r(464, 484, 0));
        makes(Ops.ADD, r(60000, 65000, 0), r(535, 535, 0), r(60535, 65535, 0));
        makes(Ops.ADD, r(60000, 65000, 0), r(536, 536, 0), r(0, 65535, 0));
        makes(Ops.ADD, r(0, 16, 3), one(65528), r(0, 65528, 3));
        makes(Ops.ADD, r(8, 16, 3), one(65528), r(0, 8, 3));
        makes(Ops.ADD, r(65535, 65535, 0), r(1, 2, 0), r(0, 1, 0));
        makes(Ops.ADD, r(65535, 65535, 0), r(0, 2, 0), r(0, 65535, 0));
        makes(Ops.SUB, r(20, 30, 0), r(5, 20, 0), r(0, 25, 0));
        makes(Ops.SUB, r(20, 30, 0), r(5, 21, 0), r(0, 65535, 0));
        makes(Ops.SUB, r(20, 30, 0), r(31, 40, 0), r(65516, 65535, 0));
        makes(Ops.SUB, r(20, 30, 0), r(30, 40, 0), r(0, 65535, 0));
        makes(Ops.SUB, r(0, 64, 4), r(0, 64, 5), r(0, 65520, 4));
        makes(Ops.SUB, one(64), r(0, 32, 5), r(32, 64, 5));
    }

    private static void products() {
        makes(Ops.MUL, r(2, 5, 0), r(10, 20, 0), r(20, 100, 0));
        makes(Ops.MUL, r(0, 8, 2), r(0, 6, 1), r(0, 48, 3));
        makes(Ops.MUL, r(1, 255, 0), r(1, 257, 0), r(1, 65535, 0));
        makes(Ops.MUL, r(1, 256, 0), r(1, 256, 0), r(0, 65535, 0));
        makes(Ops.MUL, r(1, 65535, 0), r(1, 65535, 0), r(0, 65535, 0));
        makes(Ops.MUL, r(0, 65280, 8), r(0, 512, 7), r(0, 32768, 15));
        makes(Ops.MUL, r(0, 65280, 8), r(0, 512, 8), r(0, 0, 16));
        makes(Ops.MUL, r(1, 9, 0), one(0), r(0, 0, 16));
        makes(Ops.DIV, r(10, 99, 0), one(10), r(1, 9, 0));
        makes(Ops.DIV, r(8, 64, 3), one(1), r(8, 64, 0));
        makes(Ops.DIV, r(11, 19, 0), one(10), r(1, 1, 0));
        makes(Ops.DIV, r(10, 99, 0), one(0), r(0, 0, 16));
        makes(Ops.DIV, r(10, 99, 0), r(1, 2, 0), r(0, 99, 0));
        makes(Ops.DIV, one(64), r(1, 2, 0), r(0, 64, 0));
        makes(Ops.MOD, r(10, 99, 0), one(0), r(10, 99, 0));
        makes(Ops.MOD, r(10, 99, 0), one(100), r(10, 99, 0));
        makes(Ops.MOD, r(10, 99, 0), one(99), r(0, 98, 0));
        makes(Ops.MOD, r(8, 64, 3), one(24), r(0, 16, 3));
        makes(Ops.MOD, r(8, 64, 3), one(12), r(0, 8, 2));
        makes(Ops.MOD, r(8, 64, 3), one(8), r(0, 0, 16));
        makes(Ops.MOD, r(8, 64, 3), one(65), r(8, 64, 3));
        makes(Ops.MOD, r(8, 64, 3), r(4, 8, 2), r(0, 64, 2));
        makes(Ops.MOD, one(7), r(8, 9, 0), r(0, 7, 0));
    }

    private static void bits() {
        makes(Ops.AND, r(10, 99, 0), r(5, 50, 0), r(0, 50, 0));
        makes(Ops.AND, r(0, 255, 0), one(8), r(0, 8, 3));
        makes(Ops.AND, r(0, 64, 4), r(0, 62, 1), r(0, 48, 4));
        makes(Ops.AND, r(0, 64, 4), r(0, 15, 0), r(0, 0, 16));
        makes(Ops.AND, r(0, 64, 4), one(0), r(0, 0, 16));
        makes(Ops.OR, r(10, 99, 0), r(5, 50, 0), r(10, 127, 0));
        makes(Ops.OR, r(0, 64, 4), r(0, 8, 2), r(0, 124, 2));
        makes(Ops.OR, r(5, 50, 0), r(10, 99, 0), r(10, 127, 0));
        makes(Ops.OR, r(0, 1, 0), one(0), r(0, 1, 0));
        makes(Ops.OR, r(3, 32768, 0), one(4), r(4, 65535, 0));
        makes(Ops.OR, r(0, 64, 4), one(0), r(0, 112, 4));
        makes(Ops.XOR, r(10, 99, 0), r(5, 50, 0), r(0, 127, 0));
        makes(Ops.XOR, r(10, 127, 0), r(5, 50, 0), r(0, 127, 0));
        makes(Ops.XOR, r(5, 50, 0), r(10, 99, 0), r(0, 127, 0));
        makes(Ops.XOR, r(10, 128, 0), one(1), r(0, 255, 0));
        makes(Ops.XOR, r(0, 64, 4), r(0, 8, 3), r(0, 120, 3));
    }

    private static void shifts() {
        makes(Ops.LEFT, r(1, 5, 0), one(3), r(8, 40, 3));
        makes(Ops.LEFT, r(1, 5, 0), one(0), r(1, 5, 0));
        makes(Ops.LEFT, r(1, 65535, 0), one(0), r(1, 65535, 0));
        makes(Ops.LEFT, r(1, 65535, 0), one(1), r(0, 65534, 1));
        makes(Ops.LEFT, r(1, 65535, 0), one(15), r(0, 32768, 15));
        makes(Ops.LEFT, r(0, 65534, 1), one(15), r(0, 0, 16));
        makes(Ops.LEFT, r(1, 5, 0), one(16), r(0, 0, 16));
        makes(Ops.LEFT, r(1, 5, 0), one(65535), r(0, 0, 16));
        makes(Ops.LEFT, r(0, 8, 2), r(0, 1, 0), r(0, 65532, 2));
        makes(Ops.LEFT, r(1, 5, 0), r(16, 17, 0), r(0, 65535, 0));
        makes(Ops.LEFT, one(12), r(1, 2, 0), r(0, 65532, 2));
        makes(Ops.LEFT, one(0), r(1, 2, 0), r(0, 0, 16));
        makes(Ops.RIGHT, r(9, 50, 0), one(3), r(1, 6, 0));
        makes(Ops.RIGHT, r(16, 64, 4), one(3), r(2, 8, 1));
        makes(Ops.RIGHT, r(16, 64, 4), one(5), r(0, 2, 0));
        makes(Ops.RIGHT, r(16, 64, 4), one(0), r(16, 64, 4));
        makes(Ops.RIGHT, r(8, 15, 0), one(3), r(1, 1, 0));
        makes(Ops.RIGHT, r(16, 64, 4), one(16), r(0, 0, 16));
        makes(Ops.RIGHT, r(16, 64, 4), r(0, 1, 0), r(0, 64, 0));
        makes(Ops.RIGHT, r(16, 64, 4), r(16, 17, 0), r(0, 64, 0));
        makes(Ops.RIGHT, one(16), r(0, 1, 0), r(0, 16, 0));
    }

    /** The constant form, and an operation of a register with itself, of which only the range counts. */
    private static void constants() {
        PacketFilter x = new PacketFilter();
        give(x, 4, r(8, 64, 3));
        Ops.append(x, Ops.with(Ops.SUB, 4, 8), Ops.with(Ops.ADD, 4, 4), Ops.i(Ops.MOVE, 5, 4), Ops.i(Ops.SUB, 4, 4), Ops.i(Ops.MUL, 5, 5),
            Ops.i(Ops.XOR, 5, 5));
        fill(x);
        holds(x, "SUB 8", 7, 4, r(0, 56, 3));
        holds(x, "ADD 4", 8, 4, r(4, 60, 2));
        holds(x, "SUB itself", 10, 4, r(0, 65532, 2));
        holds(x, "MUL itself", 11, 5, r(16, 3600, 4));
        holds(x, "XOR itself", 12, 5, r(0, 4080, 4));
    }

    private static void singles() {
        int[][] zeros = {{0, 16}, {1, 0}, {2, 1}, {12, 2}, {256, 8}, {32768, 15}, {65535, 0}, {65280, 8}};
        for (int[] each : zeros) {
            PacketFilter x = Ops.with(Ops.set(0, each[0]), Ops.exit());
            x.verify();
            holds(x, "SET " + each[0], 1, 0, r(each[0], each[0], each[1]));
        }
        makes(Ops.ADD, one(65535), one(1), r(0, 0, 16));
        makes(Ops.SUB, one(1), one(2), r(65535, 65535, 0));
        makes(Ops.MUL, one(300), one(300), r(24464, 24464, 4));
        makes(Ops.DIV, one(77), one(0), r(0, 0, 16));
        makes(Ops.MOD, one(77), one(0), r(77, 77, 0));
        makes(Ops.AND, one(12), one(10), r(8, 8, 3));
        makes(Ops.OR, one(12), one(10), r(14, 14, 1));
        makes(Ops.XOR, one(12), one(12), r(0, 0, 16));
        makes(Ops.LEFT, one(3), one(15), r(32768, 32768, 15));
        makes(Ops.RIGHT, one(48), one(2), r(12, 12, 2));
    }

    private static void equal() {
        bothOfEqual(r(0, 10, 0), r(5, 20, 0), left(r(5, 10, 0), r(5, 10, 0)), left(r(0, 10, 0), r(5, 20, 0)));
        bothOfEqual(r(0, 16, 3), r(3, 20, 0), left(r(8, 16, 3), r(8, 16, 3)), left(r(0, 16, 3), r(3, 20, 0)));
        bothOfEqual(r(3, 20, 0), r(0, 16, 3), left(r(8, 16, 3), r(8, 16, 3)), left(r(3, 20, 0), r(0, 16, 3)));
        bothOfEqual(r(0, 16, 3), r(1, 7, 0), null, left(r(0, 16, 3), r(1, 7, 0)));
        bothOfEqual(r(0, 16, 3), one(4), null, left(r(0, 16, 3), r(4, 4, 2)));
        bothOfEqual(r(0, 4, 0), r(4, 9, 0), left(r(4, 4, 2), r(4, 4, 2)), left(r(0, 4, 0), r(4, 9, 0)));
        bothOfEqual(r(0, 4, 0), r(5, 9, 0), null, left(r(0, 4, 0), r(5, 9, 0)));
        bothOfEqual(one(7), one(7), left(r(7, 7, 0), r(7, 7, 0)), null);
        bothOfEqual(one(7), one(6), null, left(r(7, 7, 0), r(6, 6, 1)));
        bothOfEqual(one(0), one(0), left(r(0, 0, 16), r(0, 0, 16)), null);
    }

    private static void bothOfEqual(int[] a, int[] b, int[][] same, int[][] different) {
        leaves(Ops.EQ, a, b, same, different);
        leaves(Ops.NE, a, b, different, same);
    }

    private static void different() {
        bothOfEqual(r(3, 9, 0), one(3), left(r(3, 3, 0), r(3, 3, 0)), left(r(4, 9, 0), r(3, 3, 0)));
        bothOfEqual(r(3, 9, 0), one(9), left(r(9, 9, 0), r(9, 9, 0)), left(r(3, 8, 0), r(9, 9, 0)));
        bothOfEqual(r(3, 9, 0), one(5), left(r(5, 5, 0), r(5, 5, 0)), left(r(3, 9, 0), r(5, 5, 0)));
        bothOfEqual(one(16), r(16, 64, 4), left(r(16, 16, 4), r(16, 16, 4)), left(r(16, 16, 4), r(32, 64, 4)));
        bothOfEqual(one(64), r(16, 64, 4), left(r(64, 64, 6), r(64, 64, 6)), left(r(64, 64, 6), r(16, 48, 4)));
        bothOfEqual(r(0, 8, 3), one(0), left(r(0, 0, 16), r(0, 0, 16)), left(r(8, 8, 3), r(0, 0, 16)));
        bothOfEqual(r(0, 8, 3), one(8), left(r(8, 8, 3), r(8, 8, 3)), left(r(0, 0, 16), r(8, 8, 3)));
        bothOfEqual(r(0, 65535, 0), one(65535), left(one65535(), one65535()), left(r(0, 65534, 0), one65535()));
    }

    private static void order() {
        bothOfLess(r(0, 20, 0), r(5, 10, 0), left(r(0, 9, 0), r(5, 10, 0)), left(r(5, 20, 0), r(5, 10, 0)));
        bothOfLess(r(7, 20, 0), r(5, 10, 0), left(r(7, 9, 0), r(8, 10, 0)), left(r(7, 20, 0), r(5, 10, 0)));
        bothOfLess(r(0, 64, 4), r(0, 20, 0), left(r(0, 16, 4), r(1, 20, 0)), left(r(0, 64, 4), r(0, 20, 0)));
        bothOfLess(r(10, 20, 0), r(5, 10, 0), null, left(r(10, 20, 0), r(5, 10, 0)));
        bothOfLess(r(1, 4, 0), r(5, 10, 0), left(r(1, 4, 0), r(5, 10, 0)), null);
        bothOfLess(r(1, 5, 0), r(5, 10, 0), left(r(1, 5, 0), r(5, 10, 0)), left(r(5, 5, 0), r(5, 5, 0)));
        bothOfLess(r(1, 5, 0), one(0), null, left(r(1, 5, 0), r(0, 0, 16)));
        bothOfLess(one65535(), r(0, 65535, 0), null, left(one65535(), r(0, 65535, 0)));
        bothOfLess(r(8, 16, 3), r(0, 16, 4), left(r(8, 8, 3), r(16, 16, 4)), left(r(8, 16, 3), r(0, 16, 4)));
        bothOfAtMost(r(0, 20, 0), r(5, 10, 0), left(r(0, 10, 0), r(5, 10, 0)), left(r(6, 20, 0), r(5, 10, 0)));
        bothOfAtMost(r(7, 20, 0), r(5, 10, 0), left(r(7, 10, 0), r(7, 10, 0)), left(r(7, 20, 0), r(5, 10, 0)));
        bothOfAtMost(r(10, 20, 0), r(5, 10, 0), left(r(10, 10, 1), r(10, 10, 1)), left(r(10, 20, 0), r(5, 10, 0)));
        bothOfAtMost(r(11, 20, 0), r(5, 10, 0), null, left(r(11, 20, 0), r(5, 10, 0)));
        bothOfAtMost(r(1, 5, 0), r(5, 10, 0), left(r(1, 5, 0), r(5, 10, 0)), null);
        bothOfAtMost(r(0, 64, 4), r(17, 31, 0), left(r(0, 16, 4), r(17, 31, 0)), left(r(32, 64, 4), r(17, 31, 0)));
        bothOfAtMost(r(0, 65535, 0), one(0), left(r(0, 0, 16), r(0, 0, 16)), left(r(1, 65535, 0), r(0, 0, 16)));
    }

    private static int[][] turned(int[][] left) {
        return left == null ? null : left(left[1], left[0]);
    }

    private static void bothOfLess(int[] a, int[] b, int[][] less, int[][] not) {
        leaves(Ops.LT, a, b, less, not);
        leaves(Ops.GE, a, b, not, less);
        leaves(Ops.GT, b, a, turned(less), turned(not));
        leaves(Ops.LE, b, a, turned(not), turned(less));
    }

    private static void bothOfAtMost(int[] a, int[] b, int[][] atMost, int[][] not) {
        leaves(Ops.LE, a, b, atMost, not);
        leaves(Ops.GT, a, b, not, atMost);
        leaves(Ops.GE, b, a, turned(atMost), turned(not));
        leaves(Ops.LT, b, a, turned(not), turned(atMost));
    }

    private static void bitsInCommon() {
        leaves(Ops.BITS, r(0, 20, 0), r(5, 10, 0), left(r(0, 20, 0), r(5, 10, 0)), left(r(0, 20, 0), r(5, 10, 0)));
        leaves(Ops.BITS, r(1, 20, 0), one(7), left(r(1, 20, 0), r(7, 7, 0)), left(r(8, 16, 3), r(7, 7, 0)));
        leaves(Ops.BITS, r(0, 64, 4), one(7), left(r(0, 64, 4), r(7, 7, 0)), left(r(0, 64, 4), r(7, 7, 0)));
        leaves(Ops.BITS, r(1, 20, 0), one(1), left(r(1, 20, 0), r(1, 1, 0)), left(r(2, 20, 1), r(1, 1, 0)));
        leaves(Ops.BITS, r(1, 6, 0), one(7), left(r(1, 6, 0), r(7, 7, 0)), null);
        leaves(Ops.BITS, r(1, 9, 0), one(7), left(r(1, 9, 0), r(7, 7, 0)), left(r(8, 8, 3), r(7, 7, 0)));
        leaves(Ops.BITS, r(0, 20, 0), one65535(), left(r(0, 20, 0), one65535()), left(r(0, 0, 16), one65535()));
        leaves(Ops.BITS, r(1, 20, 0), one65535(), left(r(1, 20, 0), one65535()), null);
        leaves(Ops.BITS, r(1, 20, 0), one(6), left(r(1, 20, 0), r(6, 6, 1)), left(r(1, 20, 0), r(6, 6, 1)));
        leaves(Ops.BITS, one(7), r(1, 20, 0), left(r(7, 7, 0), r(1, 20, 0)), left(r(7, 7, 0), r(1, 20, 0)));
        leaves(Ops.BITS, one(5), one(10), null, left(r(5, 5, 0), r(10, 10, 1)));
        leaves(Ops.BITS, one(5), one(4), left(r(5, 5, 0), r(4, 4, 2)), null);
        leaves(Ops.BITS, one(0), r(1, 20, 0), null, left(r(0, 0, 16), r(1, 20, 0)));
        leaves(Ops.BITS, r(1, 20, 0), one(0), null, left(r(1, 20, 0), r(0, 0, 16)));
        leaves(Ops.BITS, one(8), one(7), null, left(r(8, 8, 3), r(7, 7, 0)));
    }

    private static void loads() {
        PacketFilter x = Ops.with(Ops.set(0, 9), Ops.move(4, 1), Ops.with(Ops.ADD, 4, 2), Ops.i(Ops.GT, 4, 2, 0, 8), Ops.i(Ops.LOAD, 5, 1, 1),
            Ops.i(Ops.LOAD2, 0, 1, 0), Ops.i(Ops.SAVE, 5, 0, 2), Ops.i(Ops.CLOCK), Ops.exit());
        checks.due("loads", x.verify(), 0);
        holds(x, "LOAD", 6, 5, r(0, 255, 0));
        holds(x, "LOAD2", 6, 0, r(0, 65535, 0));
        holds(x, "SAVE", 7, 8, r(0, 255, 0));
        holds(x, "CLOCK or 9", 8, 0, r(0, 31, 0));
        for (int r = 1; r <= 3; r++) checks.due("set on one way alone", x.bound(8, r, 0), r == 3 ? 0 : 6);
    }
}
