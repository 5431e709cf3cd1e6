import java.util.ArrayList;
import java.util.List;
import java.util.TreeMap;

/** The document once more, written apart from the program: with recursion, lists and records, one way after the other. */
final class Model {
    static final int BAD = -1, FULL = -2;

    record Range(int lo, int hi, int z) {
        static Range of(long lo, long hi, int z) {
            long unit = 1L << z;
            long up = Math.floorDiv(lo + unit - 1, unit) * unit;
            long down = Math.floorDiv(hi, unit) * unit;
            int zeros = up != down ? z : up == 0 ? 16 : Math.min(16, Long.numberOfTrailingZeros(up));
            return new Range((int) up, (int) down, zeros);
        }

        static Range one(int v) {
            return of(v, v, 0);
        }

        boolean empty() {
            return lo > hi;
        }

        boolean single() {
            return lo == hi;
        }

        boolean has(int v) {
            return v >= lo && v <= hi && v % (1 << z) == 0;
        }
    }

    record Known(int kind, Range range, int step, int origin, int reach) {
        static final Known UNSET = new Known(0, null, 0, 0, 0);

        static Known number(Range r) {
            return new Known(1, r, 0, 0, 0);
        }
    }

    record Instruction(int op, int d, int s, int n, int to) {
        boolean condition() {
            return op >= 22 && op <= 28;
        }

        boolean takesX() {
            return op >= 2 && op <= 11 || condition();
        }
    }

    record Place(int area, int at) {
    }

    final List<Instruction> program = new ArrayList<>();
    final List<List<Known[]>> came = new ArrayList<>();
    final boolean[][] gone = new boolean[32][2];
    final TreeMap<Integer, Integer> wrongs = new TreeMap<>();
    boolean verified;
    final List<Integer> packet = new ArrayList<>();
    final int[][] entries = new int[8][];
    final List<Object[]> trace = new ArrayList<>();
    final List<Integer> traceAt = new ArrayList<>();
    int ranCount = BAD, ranLast = BAD;
    boolean touchedNothing;

    int code(int op, int d, int s, int n, int to) {
        Instruction i = new Instruction(op, d, s, n, to);
        if (op < 0 || op > 29) return BAD;
        boolean dOk = d >= 0 && d <= 5, sOk = s >= 0 && s <= 5, xOk = sOk || s == -1 && n >= 0 && n <= 65535;
        boolean toOk = to > program.size() && to <= 31;
        boolean ok = switch (op) {
            case 0 -> dOk && n >= 0 && n <= 65535;
            case 1 -> dOk && sOk;
            case 2, 3, 4, 5, 6, 7, 8, 9, 10, 11 -> dOk && xOk;
            case 12, 13, 14, 15 -> dOk && sOk && n >= 0 && n <= 255;
            case 16, 17 -> dOk && n >= 0 && n <= 3;
            case 21 -> toOk;
            case 22, 23, 24, 25, 26, 27, 28 -> dOk && xOk && s != d && toOk;
            default -> true;
        };
        if (!ok) return BAD;
        if (program.size() == 32) return FULL;
        if (i.condition() && program.stream().filter(Instruction::condition).count() == 5) return FULL;
        program.add(i);
        verified = false;
        return program.size() - 1;
    }

    int wipe() {
        int had = program.size();
        program.clear();
        verified = false;
        return had;
    }

    int verify() {
        came.clear();
        for (int i = 0; i <= 32; i++) came.add(new ArrayList<>());
        for (boolean[] g : gone) g[0] = g[1] = false;
        wrongs.clear();
        Known[] first = new Known[10];
        java.util.Arrays.fill(first, Known.UNSET);
        first[1] = new Known(2, Range.one(0), 0, -1, 0);
        first[2] = new Known(3, null, 0, 0, 0);
        visit(0, first);
        verified = true;
        return wrongs.isEmpty() ? 0 : wrongs.firstEntry().getValue();
    }

    private void visit(int at, Known[] way) {
        came.get(at).add(way.clone());
        if (at >= program.size()) {
            wrongs.merge(at, 6, Math::min);
            return;
        }
        Instruction i = program.get(at);
        int wrong = wrong(i, way);
        if (wrong != 0) {
            wrongs.merge(at, wrong, Math::min);
            return;
        }
        if (i.condition()) {
            for (int so = 0; so <= 1; so++) {
                Known[] side = way.clone();
                if (!goes(i, side, so == 1)) continue;
                gone[at][so] = true;
                visit(so == 1 ? i.to : at + 1, side);
            }
        } else if (i.op != 29) {
            Known[] next = way.clone();
            step(at, i, next);
            visit(i.op == 21 ? i.to : at + 1, next);
        }
    }

    private Known x(Instruction i, Known[] way) {
        return i.s == -1 ? Known.number(Range.one(i.n)) : way[i.s];
    }

    private int wrong(Instruction i, Known[] way) {
        List<Known> reads = new ArrayList<>();
        switch (i.op) {
            case 1, 12, 13 -> reads.add(way[i.s]);
            case 14, 15 -> {
                reads.add(way[i.d]);
                reads.add(way[i.s]);
            }
            case 16 -> reads.add(way[i.d]);
            case 17 -> reads.add(way[6 + i.n]);
            case 18 -> reads.add(way[1]);
            case 29 -> reads.add(way[0]);
            default -> {
                if (i.takesX()) {
                    reads.add(way[i.d]);
                    reads.add(x(i, way));
                }
            }
        }
        if (reads.stream().anyMatch(k -> k.kind == 0)) return 1;
        if (i.op == 18 || i.op == 29) return reads.get(0).kind == 1 ? 0 : 2;
        if (i.op >= 12 && i.op <= 15) {
            if (i.op >= 14 && way[i.s].kind != 1) return 2;
            return touch(i, i.op >= 14 ? way[i.d] : way[i.s]);
        }
        if (!i.takesX()) return 0;
        Known d = way[i.d], x = x(i, way);
        if (i.condition()) {
            if (d.kind == 1 && x.kind == 1) return 0;
            if (d.kind == 5 && i.op <= 23 && i.s == -1 && i.n == 0) return 0;
            if (d.kind + x.kind == 5 && (d.kind == 2 || d.kind == 3) && i.op >= 24 && i.op <= 27) return 0;
            return 2;
        }
        if (x.kind != 1) return 2;
        if (d.kind == 1) return 0;
        boolean may = i.op == 2 || i.op == 3 && i.s == -1;
        if (!may || d.kind == 3) return 2;
        if (d.kind == 5) return 3;
        Known to = moved(0, i, d, x);
        return to.step + to.range.hi > 4000 || to.step + to.range.lo < -4000 ? 4 : 0;
    }

    private int touch(Instruction i, Known p) {
        if (p.kind != 2 && p.kind != 4 && p.kind != 5) return 2;
        if (p.kind == 5) return 3;
        int size = i.op % 2 == 0 ? 1 : 2;
        if (i.n + p.step + p.range.lo < 0) return 4;
        if (p.kind == 2 && i.n + p.step + size > p.reach) return 4;
        if (p.kind == 4 && i.n + p.step + size + p.range.hi > 8) return 4;
        if (size == 2 && (Math.floorMod(p.step + i.n, 2) == 1 || p.range.z == 0)) return 5;
        return 0;
    }

    private static Known moved(int at, Instruction i, Known p, Known x) {
        if (i.s == -1) return new Known(p.kind, p.range, i.op == 2 ? p.step + i.n : p.step - i.n, p.origin, p.reach);
        Range base = Range.of(p.range.lo + x.range.lo, p.range.hi + x.range.hi, Math.min(p.range.z, x.range.z));
        return p.kind == 2 ? new Known(2, base, p.step, at, -9999) : new Known(4, base, p.step, 0, 0);
    }

    private void step(int at, Instruction i, Known[] way) {
        switch (i.op) {
            case 0 -> way[i.d] = Known.number(Range.one(i.n));
            case 1 -> way[i.d] = way[i.s];
            case 12 -> way[i.d] = Known.number(Range.of(0, 255, 0));
            case 13 -> way[i.d] = Known.number(Range.of(0, 65535, 0));
            case 14, 15, 21 -> { }
            case 16 -> way[6 + i.n] = way[i.d];
            case 17 -> way[i.d] = way[6 + i.n];
            case 18 -> way[0] = new Known(5, null, 0, at, 0);
            case 19 -> way[0] = Known.number(Range.of(0, 16, 0));
            case 20 -> way[0] = Known.number(Range.of(0, 31, 0));
            default -> way[i.d] = way[i.d].kind == 1 ? Known.number(made(i.op, way[i.d].range, x(i, way).range)) : moved(at, i, way[i.d], x(i, way));
        }
        if (i.op >= 18 && i.op <= 20) way[1] = way[2] = way[3] = Known.UNSET;
    }

    private static Range full(int z) {
        return Range.of(0, 65535, z);
    }

    private static int ones(int v) {
        return v == 0 ? 0 : Integer.highestOneBit(v) * 2 - 1;
    }

    private static Range made(int op, Range x, Range y) {
        if (x.single() && y.single()) return Range.one(result(op, x.lo, y.lo));
        int z = Math.min(x.z, y.z);
        int c = y.lo;
        switch (op) {
            case 2: {
                int lo = x.lo + y.lo, hi = x.hi + y.hi;
                if (hi > 65535) return lo > 65535 ? Range.of(lo - 65536, hi - 65536, z) : full(z);
                return Range.of(lo, hi, z);
            }
            case 3: {
                int lo = x.lo - y.hi, hi = x.hi - y.lo;
                if (lo < 0) return hi < 0 ? Range.of(lo + 65536, hi + 65536, z) : full(z);
                return Range.of(lo, hi, z);
            }
            case 4: {
                int sum = Math.min(16, x.z + y.z);
                return (long) x.hi * y.hi > 65535 ? full(sum) : Range.of((long) x.lo * y.lo, (long) x.hi * y.hi, sum);
            }
            case 5: return !y.single() ? Range.of(0, x.hi, 0) : c == 0 ? Range.one(0) : Range.of(x.lo / c, x.hi / c, 0);
            case 6: return !y.single() ? Range.of(0, x.hi, z) : c == 0 || x.hi < c ? x : Range.of(0, c - 1, z);
            case 7: return Range.of(0, Math.min(x.hi, y.hi), Math.max(x.z, y.z));
            case 8: return Range.of(Math.max(x.lo, y.lo), ones(x.hi | y.hi), z);
            case 9: return Range.of(0, ones(x.hi | y.hi), z);
            case 10:
                if (!y.single()) return full(x.z);
                if (c >= 16) return Range.one(0);
                return (long) x.hi << c > 65535 ? full(Math.min(16, x.z + c)) : Range.of(x.lo << c, x.hi << c, Math.min(16, x.z + c));
            default:
                if (!y.single()) return Range.of(0, x.hi, 0);
                return c >= 16 ? Range.one(0) : Range.of(x.lo >> c, x.hi >> c, Math.max(0, x.z - c));
        }
    }

    /** Narrows the way to one side of a condition; false if that side is not gone. */
    private boolean goes(Instruction i, Known[] way, boolean so) {
        Known d = way[i.d], x = x(i, way);
        if (d.kind == 5) {
            boolean isNull = (i.op == 22) == so;
            Known now = isNull ? Known.number(Range.one(0)) : new Known(4, Range.one(0), 0, 0, 0);
            for (int r = 0; r < 10; r++) if (way[r].kind == 5 && way[r].origin == d.origin) way[r] = now;
            return true;
        }
        if (d.kind == 2 || d.kind == 3) {
            Known p = d.kind == 2 ? d : x;
            int sign = d.kind == 2 ? -1 : 1;
            // Which of place - END < 0, = 0, > 0 may be on this side.
            boolean less = holds(i.op, sign, 0) == so, same = holds(i.op, 0, 0) == so, more = holds(i.op, -sign, 0) == so;
            if (more) return true;
            int reach = p.step + (less && !same ? 1 : 0);
            for (int r = 0; r < 10; r++) {
                Known k = way[r];
                if (k.kind == 2 && k.origin == p.origin) way[r] = new Known(2, k.range, k.step, k.origin, Math.max(k.reach, reach));
            }
            return true;
        }
        Range[] left = sides(i.op, d.range, x.range, so);
        if (left == null || left[0].empty() || left[1].empty()) return false;
        way[i.d] = Known.number(left[0]);
        if (i.s != -1) way[i.s] = Known.number(left[1]);
        return true;
    }

    private static Range[] sides(int op, Range x, Range y, boolean so) {
        switch (op) {
            case 22: return so ? same(x, y) : apart(x, y);
            case 23: return so ? apart(x, y) : same(x, y);
            case 24: return so ? below(x, y, 1) : turn(below(y, x, 0));
            case 25: return so ? below(x, y, 0) : turn(below(y, x, 1));
            case 26: return so ? turn(below(y, x, 1)) : below(x, y, 0);
            case 27: return so ? turn(below(y, x, 0)) : below(x, y, 1);
            default: {
                boolean singles = x.single() && y.single();
                if (so) return x.hi == 0 || y.hi == 0 || singles && (x.lo & y.lo) == 0 ? null : new Range[] {x, y};
                if (singles && (x.lo & y.lo) != 0) return null;
                if (!y.single() || y.lo == 0 || Integer.bitCount(y.lo + 1) != 1) return new Range[] {x, y};
                return new Range[] {Range.of(x.lo, x.hi, Math.max(x.z, Integer.bitCount(y.lo))), y};
            }
        }
    }

    private static Range[] turn(Range[] r) {
        return new Range[] {r[1], r[0]};
    }

    private static Range[] same(Range x, Range y) {
        Range r = Range.of(Math.max(x.lo, y.lo), Math.min(x.hi, y.hi), Math.max(x.z, y.z));
        return new Range[] {r, r};
    }

    private static Range[] apart(Range x, Range y) {
        if (x.single() && y.single() && x.lo == y.lo) return null;
        return new Range[] {without(x, y), without(y, x)};
    }

    private static Range without(Range x, Range y) {
        if (!y.single()) return x;
        return Range.of(x.lo == y.lo ? x.lo + (1 << x.z) : x.lo, x.hi == y.lo ? x.hi - (1 << x.z) : x.hi, x.z);
    }

    private static Range[] below(Range x, Range y, int by) {
        return new Range[] {Range.of(x.lo, Math.min(x.hi, y.hi - by), x.z), Range.of(Math.max(y.lo, x.lo + by), y.hi, y.z)};
    }

    int place() {
        return verified && !wrongs.isEmpty() ? wrongs.firstKey() : BAD;
    }

    int bound(int i, int r, int what) {
        if (!verified || i < 0 || i >= program.size() || r < 0 || r > 9 || what < 0 || what > 3) return BAD;
        if (!wrongs.isEmpty() && i > wrongs.firstKey() || came.get(i).isEmpty()) return BAD;
        List<Known> all = came.get(i).stream().map(w -> w[r]).toList();
        int kind = all.stream().mapToInt(k -> k.kind).distinct().count() == 1 ? all.get(0).kind : 6;
        if (what == 0) return kind;
        if (kind != 1) return BAD;
        if (what == 1) return all.stream().mapToInt(k -> k.range.lo).min().getAsInt();
        if (what == 2) return all.stream().mapToInt(k -> k.range.hi).max().getAsInt();
        return all.stream().mapToInt(k -> k.range.z).min().getAsInt();
    }

    int decided(int i) {
        if (!verified || i < 0 || i >= program.size() || !program.get(i).condition()) return BAD;
        if (!wrongs.isEmpty() && i >= wrongs.firstKey()) return BAD;
        if (came.get(i).isEmpty()) return 0;
        return gone[i][1] ? gone[i][0] ? 3 : 1 : 2;
    }

    int put(int v) {
        if (packet.size() == 16) return FULL;
        packet.add(v & 255);
        return packet.size();
    }

    int cut() {
        int had = packet.size();
        packet.clear();
        return had;
    }

    int packet(int k) {
        return k >= 0 && k < packet.size() ? packet.get(k) : BAD;
    }

    boolean enter(int e, int k, int v) {
        if (e < 0 || e > 7 || k < 0 || k > 7) return false;
        if (entries[e] == null) entries[e] = new int[8];
        entries[e][k] = v & 255;
        return true;
    }

    boolean drop(int e) {
        if (e < 0 || e > 7 || entries[e] == null) return false;
        entries[e] = null;
        return true;
    }

    int entry(int e, int k) {
        return e < 0 || e > 7 || k < 0 || k > 7 || entries[e] == null ? BAD : entries[e][k];
    }

    int ran(int what) {
        return what == 0 ? ranCount : what == 1 ? ranLast : BAD;
    }

    static int result(int op, int a, int b) {
        int r = switch (op) {
            case 2 -> a + b;
            case 3 -> a - b;
            case 4 -> a * b;
            case 5 -> b == 0 ? 0 : a / b;
            case 6 -> b == 0 ? a : a % b;
            case 7 -> a & b;
            case 8 -> a | b;
            case 9 -> a ^ b;
            case 10 -> b > 15 ? 0 : a << b;
            default -> b > 15 ? 0 : a >>> b;
        };
        return r & 0xFFFF;
    }

    private static boolean holds(int op, int a, int b) {
        return switch (op) {
            case 22 -> a == b;
            case 23 -> a != b;
            case 24 -> a < b;
            case 25 -> a <= b;
            case 26 -> a > b;
            case 27 -> a >= b;
            default -> (a & b) != 0;
        };
    }

    private static int number(Object o) {
        return o instanceof Place p ? p.at : (Integer) o;
    }

    private int load(Place p, int n) {
        int at = p.at + n;
        if (p.area == 8 ? at < 0 || at >= packet.size() : at < 0 || at > 7) touchedNothing = true;
        if (touchedNothing) return 0;
        return p.area == 8 ? packet.get(at) : entries[p.area][at];
    }

    private void store(Place p, int n, int v) {
        load(p, n);
        if (touchedNothing) return;
        if (p.area == 8) packet.set(p.at + n, v & 255);
        else entries[p.area][p.at + n] = v & 255;
    }

    int run() {
        if (!verified || !wrongs.isEmpty()) return BAD;
        trace.clear();
        traceAt.clear();
        touchedNothing = false;
        Object[] r = new Object[10];
        java.util.Arrays.fill(r, 0);
        r[1] = new Place(8, 0);
        r[2] = new Place(8, packet.size());
        int at = 0;
        int done = 0;
        while (program.get(at).op != 29) {
            trace.add(r.clone());
            traceAt.add(at);
            at = execute(at, program.get(at), r, done);
            done++;
        }
        ranCount = done + 1;
        ranLast = at;
        return (Integer) r[0];
    }

    private int execute(int at, Instruction i, Object[] r, int done) {
        Object x = i.takesX() ? i.s == -1 ? (Object) i.n : r[i.s] : null;
        switch (i.op) {
            case 0 -> r[i.d] = i.n;
            case 1 -> r[i.d] = r[i.s];
            case 12 -> r[i.d] = load((Place) r[i.s], i.n);
            case 13 -> r[i.d] = load((Place) r[i.s], i.n) | load((Place) r[i.s], i.n + 1) << 8;
            case 14 -> store((Place) r[i.d], i.n, (Integer) r[i.s]);
            case 15 -> {
                store((Place) r[i.d], i.n, (Integer) r[i.s]);
                store((Place) r[i.d], i.n + 1, (Integer) r[i.s] >> 8);
            }
            case 16 -> r[6 + i.n] = r[i.d];
            case 17 -> r[i.d] = r[6 + i.n];
            case 18 -> {
                int e = (Integer) r[1];
                r[0] = e < 8 && entries[e] != null ? (Object) new Place(e, 0) : (Object) 0;
            }
            case 19 -> r[0] = packet.size();
            case 20 -> r[0] = done;
            case 21 -> {
                return i.to;
            }
            default -> {
                if (i.condition()) {
                    boolean entry = r[i.d] instanceof Place p && p.area < 8;
                    boolean so = entry ? i.op == 23 : holds(i.op, number(r[i.d]), number(x));
                    return so ? i.to : at + 1;
                }
                if (r[i.d] instanceof Place p) r[i.d] = new Place(p.area, i.op == 2 ? p.at + (Integer) x : p.at - (Integer) x);
                else r[i.d] = result(i.op, (Integer) r[i.d], (Integer) x);
            }
        }
        return at + 1;
    }
}
