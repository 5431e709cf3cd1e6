/** Programs whose registers 4 and 5 hold the ranges that are asked for, and what is found of them. */
class Ranges {
    static final Checks checks = new Checks();
    static final int AT = 12, JUMPED = 20, LEAVE = 30;

    static int[] r(int lo, int hi, int z) {
        return new int[] {lo, hi, z};
    }

    static int[] one(int v) {
        return r(v, v, 0);
    }

    /** Register d gets this range: FULL with z zeros, and then two conditions that leave if it is outside. */
    static void give(PacketFilter x, int d, int[] range) {
        Ops.append(x, Ops.i(Ops.SIZE), Ops.with(Ops.MUL, 0, 65535), Ops.with(Ops.LEFT, 0, range[2]), Ops.i(Ops.LT, 0, -1, range[0], LEAVE),
            Ops.i(Ops.GT, 0, -1, range[1], LEAVE), Ops.move(d, 0));
    }

    static PacketFilter withRanges(int[] a, int[] b) {
        PacketFilter x = new PacketFilter();
        give(x, 4, a);
        give(x, 5, b);
        return x;
    }

    static void fill(PacketFilter x) {
        while (x.code(Ops.EXIT, 0, 0, 0, 0) >= 0) continue;
        checks.due("verify", x.verify(), 0);
    }

    static void holds(PacketFilter x, String what, int at, int register, int[] want) {
        for (int k = 0; k < 3; k++) checks.due(what + " [" + "lo hi z ".substring(k * 3, k * 3 + 2) + "]", x.bound(at, register, k + 1), want[k]);
    }

    static String name(int op, int[] a, int[] b) {
        return java.util.Arrays.toString(a) + " op " + op + " " + java.util.Arrays.toString(b);
    }

    static boolean isSingle(int[] range) {
        return range[0] == range[1];
    }

    /** What is made of a and b; where b is a single number, as a constant, too. */
    static void makes(int op, int[] a, int[] b, int[] want) {
        PacketFilter x = withRanges(a, b);
        Ops.append(x, Ops.i(op, 4, 5));
        fill(x);
        holds(x, name(op, a, b), AT + 1, 4, want);
        if (!isSingle(b)) return;
        x = withRanges(a, b);
        Ops.append(x, Ops.with(op, 4, b[0]));
        fill(x);
        holds(x, name(op, a, b) + " as a constant", AT + 1, 4, want);
    }

    /** What is left of a and b on the side that jumps and on the other one, null if it is not gone; likewise with b as a constant. */
    static void leaves(int op, int[] a, int[] b, int[][] jumping, int[][] staying) {
        sides(name(op, a, b), withRanges(a, b), Ops.i(op, 4, 5, 0, JUMPED), jumping, staying, 2);
        if (isSingle(b)) sides(name(op, a, b) + " as a constant", withRanges(a, b), Ops.i(op, 4, -1, b[0], JUMPED), jumping, staying, 1);
    }

    private static void sides(String name, PacketFilter x, int[] condition, int[][] jumping, int[][] staying, int registers) {
        Ops.append(x, condition);
        // A jump over the target, so that the side which stays does not come there.
        Ops.append(x, Ops.jump(LEAVE));
        fill(x);
        side(x, name + " jumps", JUMPED, jumping, registers);
        side(x, name + " stays", AT + 1, staying, registers);
        checks.due(name + " decided", x.decided(AT), (jumping != null ? 1 : 0) + (staying != null ? 2 : 0));
    }

    private static void side(PacketFilter x, String name, int at, int[][] left, int registers) {
        for (int k = 0; k < registers; k++) {
            if (left != null) holds(x, name + ", register " + (4 + k), at, 4 + k, left[k]);
            else checks.due(name + " not", x.bound(at, 4 + k, 0), PacketFilter.BAD);
        }
    }

    static int[][] left(int[] a, int[] b) {
        return new int[][] {a, b};
    }

    static int[] one65535() {
        return r(65535, 65535, 0);
    }
}
