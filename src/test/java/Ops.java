/** The document's instructions, by name, and short ways to append them. */
final class Ops {
    static final int SET = 0, MOVE = 1, ADD = 2, SUB = 3, MUL = 4, DIV = 5, MOD = 6, AND = 7, OR = 8, XOR = 9, LEFT = 10,
        RIGHT = 11, LOAD = 12, LOAD2 = 13, STORE = 14, STORE2 = 15, SAVE = 16, BACK = 17, FIND = 18, SIZE = 19,
        CLOCK = 20, JUMP = 21, EQ = 22, NE = 23, LT = 24, LE = 25, GT = 26, GE = 27, BITS = 28, EXIT = 29;

    private Ops() {
    }

    /** A new object with these instructions, each {op, d, s, n, to}, of which the last ones may be left away. */
    static PacketFilter with(int[]... instructions) {
        PacketFilter x = new PacketFilter();
        append(x, instructions);
        return x;
    }

    static void append(PacketFilter x, int[]... instructions) {
        for (int[] each : instructions) {
            int[] all = java.util.Arrays.copyOf(each, 5);
            int number = x.code(all[0], all[1], all[2], all[3], all[4]);
            if (number < 0) throw new IllegalStateException("refused: " + java.util.Arrays.toString(each));
        }
    }

    static int[] i(int... parts) {
        return parts;
    }

    static int[] set(int d, int n) {
        return i(SET, d, 0, n);
    }

    static int[] move(int d, int s) {
        return i(MOVE, d, s);
    }

    /** d op the constant n. */
    static int[] with(int op, int d, int n) {
        return i(op, d, -1, n);
    }

    static int[] jump(int to) {
        return i(JUMP, 0, 0, 0, to);
    }

    static int[] exit() {
        return i(EXIT);
    }
}
