import java.util.ArrayList;
import java.util.Arrays;
import java.util.List;

/**
 * After a call that is refused (BAD, FULL, false) all that later calls answer is as if it had not been made; after wipe() nothing is left of
 * a program and what was found of it; and no call ever throws.
 */
public final class RefusedTest {
    private static final int BAD = PacketFilter.BAD, FULL = PacketFilter.FULL;
    private static final int FAR = Integer.MAX_VALUE, LOW = Integer.MIN_VALUE;
    private static final int MOST_CALLS = 512;
    private static final Checks checks = new Checks();

    /** A call, with a boolean answer as 1 or 0. */
    private interface Call {
        int on(PacketFilter x);
    }

    /** A call that is to be refused with this answer. */
    private record Refused(String name, int want, Call call) {
    }

    /** What was done to a new object, what the last of it answered, and what is refused then besides all that is always refused. */
    private record State(String name, List<Call> history, int last, List<Refused> refused) {
    }

    public static void main(String[] args) {
        for (State state : states()) {
            isAsMeant(state);
            List<Refused> all = new ArrayList<>(alwaysRefused());
            all.addAll(state.refused);
            for (Refused each : all) changesNothing(state, List.of(each));
            // All of them, one after the other, in both orders, so far as an object may be used.
            List<Refused> some = new ArrayList<>(all.subList(0, Math.min(all.size(), 150)));
            some.addAll(state.refused);
            changesNothing(state, some);
            java.util.Collections.reverse(some);
            changesNothing(state, some);
        }
        wipedLeavesNothing();
        neverThrows();
        checks.end();
    }

    // ---- What is refused

    private static int asInt(boolean b) {
        return b ? 1 : 0;
    }

    private static Refused code(int want, int op, int d, int s, int n, int to) {
        return new Refused("code(" + op + ", " + d + ", " + s + ", " + n + ", " + to + ")", want, x -> x.code(op, d, s, n, to));
    }

    private static List<Refused> alwaysRefused() {
        List<Refused> all = new ArrayList<>();
        for (int op : new int[] {LOW, -1, 30, FAR}) all.add(code(BAD, op, 0, 1, 0, 31));
        for (int op = Ops.SET; op <= Ops.BITS; op++) {
            boolean takesX = op >= Ops.ADD && op <= Ops.RIGHT || op >= Ops.EQ;
            if (op <= Ops.BACK || op >= Ops.EQ) {
                all.add(code(BAD, op, -1, 1, 0, 31));
                all.add(code(BAD, op, 6, 1, 0, 31));
            }
            if (takesX || op == Ops.MOVE || op >= Ops.LOAD && op <= Ops.STORE2) {
                all.add(code(BAD, op, 0, -2, 0, 31));
                all.add(code(BAD, op, 0, 6, 0, 31));
            }
            if (takesX) {
                all.add(code(BAD, op, 0, -1, -1, 31));
                all.add(code(BAD, op, 0, -1, 65536, 31));
            }
            if (op >= Ops.JUMP) {
                all.add(code(BAD, op, 0, 1, 0, 0));
                all.add(code(BAD, op, 0, 1, 0, 32));
            }
            if (op >= Ops.EQ) all.add(code(BAD, op, 3, 3, 0, 31));
        }
        for (int[] each : new int[][] {{Ops.SET, 65536}, {Ops.LOAD, 256}, {Ops.LOAD2, 256}, {Ops.STORE, 256}, {Ops.STORE2, 256}, {Ops.SAVE, 4}, {Ops.BACK, 4}}) {
            all.add(code(BAD, each[0], 0, 1, each[1], 0));
            all.add(code(BAD, each[0], 0, 1, -1, 0));
        }
        for (int k : new int[] {LOW, -1, 8, FAR}) {
            all.add(new Refused("enter(" + k + ", 0, 5)", 0, x -> asInt(x.enter(k, 0, 5))));
            all.add(new Refused("enter(0, " + k + ", 5)", 0, x -> asInt(x.enter(0, k, 5))));
            all.add(new Refused("enter(3, " + k + ", 5)", 0, x -> asInt(x.enter(3, k, 5))));
            all.add(new Refused("drop(" + k + ")", 0, x -> asInt(x.drop(k))));
            all.add(new Refused("entry(" + k + ", 0)", BAD, x -> x.entry(k, 0)));
            all.add(new Refused("entry(3, " + k + ")", BAD, x -> x.entry(3, k)));
        }
        for (int k : new int[] {LOW, -1, 16, FAR}) all.add(new Refused("packet(" + k + ")", BAD, x -> x.packet(k)));
        for (int i : new int[] {LOW, -1, 32, FAR}) {
            all.add(new Refused("bound(" + i + ", 1, 0)", BAD, x -> x.bound(i, 1, 0)));
            all.add(new Refused("bound(0, " + i + ", 0)", BAD, x -> x.bound(0, i, 0)));
            all.add(new Refused("bound(0, 1, " + i + ")", BAD, x -> x.bound(0, 1, i)));
            all.add(new Refused("decided(" + i + ")", BAD, x -> x.decided(i)));
            all.add(new Refused("ran(" + i + ")", BAD, x -> x.ran(i)));
        }
        return all;
    }

    private static final Refused PUT = new Refused("put(5)", FULL, x -> x.put(5)), RUN = new Refused("run()", BAD, PacketFilter::run),
        PLACE = new Refused("place()", BAD, PacketFilter::place), DROP_1 = new Refused("drop(1)", 0, x -> asInt(x.drop(1))),
        ENTRY_1 = new Refused("entry(1, 1)", BAD, x -> x.entry(1, 1)), RAN_0 = new Refused("ran(0)", BAD, x -> x.ran(0)),
        RAN_1 = new Refused("ran(1)", BAD, x -> x.ran(1)), PACKET_0 = new Refused("packet(0)", BAD, x -> x.packet(0)),
        BOUND_0 = new Refused("bound(0, 1, 0)", BAD, x -> x.bound(0, 1, 0)), DECIDED_1 = new Refused("decided(1)", BAD, x -> x.decided(1));

    // ---- The states

    private static void append(List<Call> history, int[]... instructions) {
        for (int[] each : instructions) {
            int[] all = Arrays.copyOf(each, 5);
            history.add(x -> x.code(all[0], all[1], all[2], all[3], all[4]));
        }
    }

    /** Loads what a byte of the packet says from entry 3, changes it and the packet, and tells of the packet's length. */
    private static final int[][] PROGRAM = {Ops.set(0, 1), Ops.i(Ops.GE, 1, 2, 0, 14), Ops.i(Ops.LOAD, 4, 1, 0), Ops.with(Ops.ADD, 4, 1), Ops.i(Ops.STORE, 1, 4, 0),
        Ops.set(1, 3), Ops.i(Ops.FIND), Ops.i(Ops.NE, 0, -1, 0, 9), Ops.exit(), Ops.i(Ops.LOAD2, 5, 0, 2), Ops.i(Ops.ADD, 5, 4), Ops.i(Ops.STORE2, 0, 5, 2),
        Ops.i(Ops.SIZE), Ops.i(Ops.ADD, 0, 5), Ops.exit()};

    private static void fillPacket(List<Call> history, int length) {
        for (int k = 0; k < length; k++) {
            int v = 40 + k;
            history.add(x -> x.put(v));
        }
    }

    private static void enterSome(List<Call> history) {
        for (int e : new int[] {0, 3, 7}) {
            for (int k = 0; k < 8; k++) {
                int byteOf = k;
                history.add(x -> asInt(x.enter(e, byteOf, 10 * e + byteOf)));
            }
        }
    }

    private static List<State> states() {
        List<State> all = new ArrayList<>();
        all.add(new State("new", List.of(), 0, List.of(RUN, PLACE, DROP_1, ENTRY_1, RAN_0, RAN_1, PACKET_0, BOUND_0, DECIDED_1)));

        List<Call> written = new ArrayList<>();
        append(written, PROGRAM);
        fillPacket(written, 5);
        enterSome(written);
        all.add(new State("not verified", List.copyOf(written), 1, List.of(RUN, PLACE, DROP_1, ENTRY_1, RAN_0, RAN_1, BOUND_0, DECIDED_1)));
        written.add(PacketFilter::verify);
        all.add(new State("verified", List.copyOf(written), 0, List.of(PLACE, DROP_1, ENTRY_1, RAN_0, RAN_1)));
        written.add(PacketFilter::run);
        all.add(new State("run", List.copyOf(written), 8526, List.of(PLACE, DROP_1, ENTRY_1)));

        List<Call> wrong = new ArrayList<>(written);
        append(wrong, Ops.set(0, 0));
        all.add(new State("changed after a run", List.copyOf(wrong), 15, List.of(RUN, PLACE, DROP_1, ENTRY_1, BOUND_0, DECIDED_1)));
        wrong.add(PacketFilter::wipe);
        append(wrong, Ops.i(Ops.SIZE), Ops.i(Ops.EQ, 0, -1, 3, 3), Ops.i(Ops.STORE, 4, 0, 0), Ops.i(Ops.EQ, 0, -1, 3, 5), Ops.exit(), Ops.exit());
        wrong.add(PacketFilter::verify);
        all.add(new State("WRONG at 2", List.copyOf(wrong), 1, List.of(RUN, DROP_1, ENTRY_1, new Refused("decided(3)", BAD, x -> x.decided(3)),
            new Refused("bound(3, 0, 0)", BAD, x -> x.bound(3, 0, 0)))));
        wrong.add(PacketFilter::wipe);
        all.add(new State("wiped", List.copyOf(wrong), 6, List.of(RUN, PLACE, DROP_1, ENTRY_1, BOUND_0, DECIDED_1)));
        wrong.add(PacketFilter::verify);
        all.add(new State("nothing, verified", List.copyOf(wrong), 6, List.of(RUN, DROP_1, ENTRY_1, BOUND_0, DECIDED_1)));

        all.add(fullOfInstructions(written));
        all.add(fullOfConditions(written, false));
        all.add(fullOfConditions(written, true));
        List<Call> longPacket = new ArrayList<>(written);
        fillPacket(longPacket, 11);
        all.add(new State("a full packet", List.copyOf(longPacket), 16, List.of(PUT, PLACE, DROP_1, ENTRY_1)));
        return all;
    }

    private static State fullOfInstructions(List<Call> before) {
        List<Call> history = new ArrayList<>(before);
        while (history.size() < before.size() + 32 - PROGRAM.length) append(history, Ops.exit());
        history.add(PacketFilter::verify);
        List<Refused> refused = new ArrayList<>(List.of(PLACE, DROP_1, ENTRY_1));
        for (int op = Ops.SET; op <= Ops.EXIT; op++) {
            boolean jumps = op >= Ops.JUMP && op <= Ops.BITS;
            refused.add(code(jumps ? BAD : FULL, op, 0, 1, 0, 32));
            refused.add(code(jumps ? BAD : FULL, op, 0, 1, 0, 31));
        }
        return new State("32 instructions", history, 0, refused);
    }

    private static State fullOfConditions(List<Call> before, boolean isVerified) {
        List<Call> history = new ArrayList<>(before);
        history.add(PacketFilter::wipe);
        append(history, Ops.i(Ops.SIZE));
        for (int k = 0; k < 5; k++) append(history, Ops.i(Ops.EQ, 0, -1, k, 6 + k));
        for (int k = 6; k < 12; k++) append(history, Ops.with(Ops.ADD, 0, 1 << k));
        append(history, Ops.exit());
        if (isVerified) history.add(PacketFilter::verify);
        List<Refused> refused = new ArrayList<>(List.of(PLACE, DROP_1, ENTRY_1));
        if (!isVerified) refused.addAll(List.of(RUN, BOUND_0, DECIDED_1));
        for (int op = Ops.EQ; op <= Ops.BITS; op++) refused.add(code(FULL, op, 0, 1, 0, 31));
        return new State("5 conditions, " + (isVerified ? "verified" : "not verified"), history, isVerified ? 0 : 12, refused);
    }

    // ---- All that later calls show

    /** Questions, and what changes when asked, each list on an object of its own. */
    private static List<List<Call>> questions() {
        List<List<Call>> all = new ArrayList<>();
        for (int from = 0; from < 32; from += 8) {
            List<Call> found = new ArrayList<>();
            for (int i = from; i < from + 8; i++) {
                int at = i;
                found.add(x -> x.decided(at));
                for (int r = 0; r < 10; r++) {
                    for (int what = 0; what < 4; what++) {
                        int register = r, asked = what;
                        found.add(x -> x.bound(at, register, asked));
                    }
                }
            }
            all.add(found);
        }
        List<Call> held = new ArrayList<>(held());
        held.add(PacketFilter::run);
        held.addAll(held());
        all.add(held);
        all.add(List.of(PacketFilter::place, PacketFilter::verify, PacketFilter::place, PacketFilter::run, x -> x.ran(0), x -> x.ran(1), PacketFilter::run));
        all.add(List.of(PacketFilter::wipe, PacketFilter::cut, PacketFilter::wipe, PacketFilter::verify));
        List<Call> filled = new ArrayList<>();
        for (int k = 0; k < 17; k++) filled.add(x -> x.put(6));
        for (int e = 0; e < 8; e++) {
            int number = e;
            filled.add(x -> asInt(x.drop(number)));
            filled.add(x -> asInt(x.enter(number, 1, 1)));
        }
        filled.addAll(held());
        all.add(filled);
        List<Call> conditions = new ArrayList<>();
        for (int k = 0; k < 6; k++) conditions.add(x -> x.code(Ops.EQ, 0, -1, 2, 31));
        conditions.add(PacketFilter::verify);
        for (int k = 0; k < 33; k++) conditions.add(x -> x.code(Ops.EXIT, 0, 0, 0, 0));
        conditions.add(PacketFilter::verify);
        conditions.add(PacketFilter::place);
        conditions.add(PacketFilter::run);
        conditions.add(PacketFilter::wipe);
        all.add(conditions);
        return all;
    }

    private static List<Call> held() {
        List<Call> all = new ArrayList<>(List.of(PacketFilter::place, x -> x.ran(0), x -> x.ran(1)));
        for (int k = 0; k < 16; k++) {
            int at = k;
            all.add(x -> x.packet(at));
        }
        for (int k = 0; k < 64; k++) {
            int at = k;
            all.add(x -> x.entry(at / 8, at % 8));
        }
        return all;
    }

    private static final List<List<Call>> QUESTIONS = questions();

    private static void changesNothing(State state, List<Refused> refused) {
        String names = refused.size() == 1 ? refused.get(0).name : refused.size() + " refused calls";
        for (int k = 0; k < QUESTIONS.size(); k++) {
            List<Call> asked = QUESTIONS.get(k);
            // An object is used for at most 512 calls, the refused ones among them.
            int room = MOST_CALLS - state.history.size() - asked.size();
            List<Refused> some = refused.subList(0, Math.min(refused.size(), room));
            PacketFilter without = made(state.history), with = made(state.history);
            for (Refused each : some) checks.due(state.name + ": " + each.name, each.call.on(with), each.want);
            for (int q = 0; q < asked.size(); q++) {
                checks.due(state.name + ", after " + names + ": question " + k + ", " + q, asked.get(q).on(with), asked.get(q).on(without));
            }
        }
    }

    /** Programs of which each has other ways to the same instructions, other kinds there, and other things WRONG. */
    private static final int[][][] PROGRAMS = {
        PROGRAM,
        {},
        {Ops.exit()},
        {Ops.i(Ops.LOAD, 0, 1, 0), Ops.exit()},
        {Ops.set(0, 0), Ops.i(Ops.GE, 1, 2, 0, 3), Ops.i(Ops.LOAD, 0, 1, 0), Ops.exit()},
        {Ops.set(0, 0), Ops.i(Ops.EQ, 0, -1, 0, 3), Ops.i(Ops.EQ, 0, -1, 1, 3), Ops.exit()},
        {Ops.set(0, 0), Ops.i(Ops.NE, 0, -1, 0, 3), Ops.i(Ops.EQ, 0, -1, 0, 3), Ops.exit()},
        {Ops.set(0, 3), Ops.move(4, 1), Ops.i(Ops.ADD, 1, 0), Ops.exit()},
        {Ops.set(0, 3), Ops.move(4, 1), Ops.i(Ops.ADD, 4, 0), Ops.i(Ops.GE, 4, 2, 0, 6), Ops.i(Ops.LOAD, 0, 4, 0), Ops.i(Ops.LOAD, 0, 1, 0), Ops.exit()},
        {Ops.set(0, 0), Ops.with(Ops.SUB, 1, 4), Ops.with(Ops.ADD, 1, 1), Ops.exit()},
        {Ops.with(Ops.ADD, 1, 7), Ops.i(Ops.GT, 1, 2, 0, 4), Ops.set(0, 1), Ops.exit(), Ops.set(0, 2), Ops.exit()},
        {Ops.i(Ops.SAVE, 1, 0, 3), Ops.i(Ops.SAVE, 2, 0, 2), Ops.i(Ops.SIZE), Ops.move(1, 0), Ops.move(2, 0), Ops.move(3, 0), Ops.move(4, 0), Ops.move(5, 0),
            Ops.exit()}
    };

    private static List<Call> longest(boolean saves) {
        List<Call> history = new ArrayList<>();
        append(history, Ops.set(0, 9));
        for (int k = 1; k < 31; k++) append(history, saves ? Ops.i(Ops.SAVE, 0, 0, k % 4) : Ops.set(0, k));
        append(history, Ops.exit());
        return history;
    }

    private static void wipedLeavesNothing() {
        List<List<Call>> programs = new ArrayList<>(List.of(longest(true), longest(false)));
        for (int[][] each : PROGRAMS) {
            List<Call> history = new ArrayList<>();
            append(history, each);
            programs.add(history);
        }
        for (List<Call> first : programs) {
            for (List<Call> second : programs) {
                List<Call> only = new ArrayList<>(second), after = new ArrayList<>(first);
                only.add(PacketFilter::verify);
                after.add(PacketFilter::verify);
                after.add(PacketFilter::wipe);
                after.addAll(second);
                after.add(PacketFilter::verify);
                sameAnswers("program " + programs.indexOf(second) + " after " + programs.indexOf(first), only, after);
            }
        }
    }

    private static void sameAnswers(String what, List<Call> history, List<Call> another) {
        for (int k = 0; k < QUESTIONS.size(); k++) {
            PacketFilter x = made(history), y = made(another);
            for (Call asked : QUESTIONS.get(k)) checks.due(what + ": question " + k, asked.on(y), asked.on(x));
        }
    }

    private static void isAsMeant(State state) {
        PacketFilter x = new PacketFilter();
        int answer = 0;
        for (Call each : state.history) answer = each.on(x);
        checks.due(state.name + ": what was done last", answer, state.last);
    }

    private static PacketFilter made(List<Call> history) {
        PacketFilter x = new PacketFilter();
        for (Call each : history) each.on(x);
        return x;
    }

    // ---- Any arguments in any state

    /** LANGUAGE.md asks it of all calls, so of those behind the 512th, too, whose answers are free. */
    private static void neverThrows() {
        int[] all = {LOW, LOW + 1, -65536, -2, -1, 0, 1, 2, 3, 5, 6, 7, 8, 9, 10, 15, 16, 17, 29, 30, 31, 32, 33, 255, 256, 319, 320, 65535, 65536, FAR - 1, FAR};
        for (State state : states()) {
            PacketFilter x = made(state.history);
            for (int a : all) {
                x.packet(a);
                x.decided(a);
                x.ran(a);
                for (int b : all) {
                    x.entry(a, b);
                    for (int c : all) x.bound(a, b, c);
                }
            }
            for (int a : all) {
                for (int b : all) {
                    x.enter(a, b, a);
                    x.drop(b);
                    x.put(a);
                    anyCode(x, a, b, all);
                }
                x.verify();
                x.run();
                x.wipe();
                x.cut();
            }
            checks.due(state.name + ": all calls have ended", true, true);
        }
    }

    private static void anyCode(PacketFilter x, int a, int b, int[] all) {
        for (int op = -1; op <= 30; op++) {
            for (int c : new int[] {all[0], -1, 0, 3, 5, 31, 65535, FAR}) {
                x.code(op, a, b, c, 31);
                if (x.code(op, b, a, 1, c) == FULL) {
                    x.verify();
                    x.run();
                    x.wipe();
                }
            }
        }
    }
}
