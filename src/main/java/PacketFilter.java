public final class PacketFilter {
    public static final int BAD = -1, FULL = -2;

    private static final int SET = 0, MOVE = 1, ADD = 2, SUB = 3, MUL = 4, DIV = 5, MOD = 6, AND = 7, OR = 8, XOR = 9,
        LEFT = 10, RIGHT = 11, LOAD = 12, LOAD2 = 13, STORE = 14, STORE2 = 15, SAVE = 16, BACK = 17, FIND = 18,
        SIZE = 19, CLOCK = 20, JUMP = 21, IF_EQUAL = 22, IF_DIFFERENT = 23, IF_LESS = 24, IF_AT_MOST = 25,
        IF_MORE = 26, IF_AT_LEAST = 27, IF_BITS = 28, EXIT = 29;

    private static final int UNSET = 0, NUMBER = 1, PACKET = 2, END = 3, ENTRY = 4, PERHAPS = 5, MIXED = 6;

    private static final int WRONG_UNSET = 1, WRONG_KIND = 2, WRONG_PERHAPS = 3, WRONG_BYTE = 4, WRONG_ODD = 5,
        WRONG_NO_INSTRUCTION = 6;

    private static final int MOST_INSTRUCTIONS = 32, MOST_CONDITIONS = 5, MOST_BYTES = 16, ENTRIES = 8, ENTRY_BYTES = 8;
    private static final int GREATEST = 65535, ALL_ZEROS = 16, FARTHEST = 4000, REACHES_NOTHING = -9999;
    private static final int NOT_USED = -1, NONE = -1;

    // A way has one cell for each of 6 registers and then 4 slots. Five conditions make at most 32 ways.
    private static final int REGISTERS = 6, SLOTS = 4, CELLS = REGISTERS + SLOTS, MOST_WAYS = 32;
    // One cell behind those of all ways holds the constant of an instruction, so that X is a cell in both its forms.
    private static final int CONSTANT = MOST_WAYS * CELLS, WAY_CELLS = CONSTANT + 1;
    private static final int SEEN_CELLS = MOST_INSTRUCTIONS * CELLS;
    private static final int MEMORY = ENTRIES * ENTRY_BYTES + MOST_BYTES;

    // In a run a place is an area and how far it is from its start: areas 0 to 7 are the entries.
    private static final int PACKET_AREA = ENTRIES, NO_AREA = -1;

    private final int[] opOf = new int[MOST_INSTRUCTIONS];
    private final int[] dOf = new int[MOST_INSTRUCTIONS];
    private final int[] sOf = new int[MOST_INSTRUCTIONS];
    private final int[] nOf = new int[MOST_INSTRUCTIONS];
    private final int[] toOf = new int[MOST_INSTRUCTIONS];
    private int count = 0;
    private int conditions = 0;

    // What the ways know; lo, hi and z are the range of a number or the base of a place.
    private final int[] kind = new int[WAY_CELLS];
    private final int[] lo = new int[WAY_CELLS];
    private final int[] hi = new int[WAY_CELLS];
    private final int[] z = new int[WAY_CELLS];
    private final int[] step = new int[WAY_CELLS];
    private final int[] origin = new int[WAY_CELLS];
    private final int[] reach = new int[WAY_CELLS];
    private final int[] wayAt = new int[MOST_WAYS];
    private int ways = 0;

    // What all ways that came to an instruction held together; the kind is NONE where none came.
    private final int[] seenKind = new int[SEEN_CELLS];
    private final int[] seenLo = new int[SEEN_CELLS];
    private final int[] seenHi = new int[SEEN_CELLS];
    private final int[] seenZ = new int[SEEN_CELLS];
    private final boolean[] jumped = new boolean[MOST_INSTRUCTIONS];
    private final boolean[] stayed = new boolean[MOST_INSTRUCTIONS];
    private boolean isVerified = false;
    private int wrong = 0;
    private int wrongAt = BAD;

    // The bytes of the entries, one after the other, and then those of the packet.
    private final int[] memory = new int[MEMORY];
    private final boolean[] isThere = new boolean[ENTRIES];
    private int size = 0;

    private final int[] area = new int[CELLS];
    private final int[] value = new int[CELLS];
    private int ranCount = BAD;
    private int ranLast = BAD;

    public PacketFilter() {
    }

    public int code(int op, int d, int s, int n, int to) {
        if (!isAsSaid(op, d, s, n, to)) return BAD;
        boolean condition = isCondition(op);
        if (count == MOST_INSTRUCTIONS || condition && conditions == MOST_CONDITIONS) return FULL;
        opOf[count] = op;
        dOf[count] = d;
        sOf[count] = s;
        nOf[count] = n;
        toOf[count] = to;
        if (condition) conditions++;
        isVerified = false;
        count++;
        return count - 1;
    }

    public int wipe() {
        int had = count;
        count = 0;
        conditions = 0;
        isVerified = false;
        return had;
    }

    public int verify() {
        forgetWhatWasFound();
        beginFirstWay();
        // Jumps only go on, so when an instruction's turn comes all ways to it are known, and the first WRONG is the least.
        for (int i = 0; i <= MOST_INSTRUCTIONS && wrong == 0; i++) {
            for (int w = 0; w < MOST_WAYS; w++) {
                if (wayAt[w] == i) follow(w, i);
            }
        }
        isVerified = true;
        return wrong;
    }

    public int place() {
        return isVerified && wrong != 0 ? wrongAt : BAD;
    }

    public int bound(int i, int r, int what) {
        if (!isVerified || !isInstruction(i) || r < 0 || r >= CELLS) return BAD;
        if (wrong != 0 && i > wrongAt) return BAD;
        int c = i * CELLS + r;
        if (seenKind[c] == NONE) return BAD;
        if (what == 0) return seenKind[c];
        if (seenKind[c] != NUMBER) return BAD;
        switch (what) {
            case 1: return seenLo[c];
            case 2: return seenHi[c];
            case 3: return seenZ[c];
            default: return BAD;
        }
    }

    public int decided(int i) {
        if (!isVerified || !isInstruction(i)) return BAD;
        boolean condition = isCondition(opOf[i]);
        if (!condition || wrong != 0 && i >= wrongAt) return BAD;
        return (jumped[i] ? 1 : 0) + (stayed[i] ? 2 : 0);
    }

    public int put(int v) {
        if (size == MOST_BYTES) return FULL;
        memory[PACKET_AREA * ENTRY_BYTES + size] = v & 255;
        size++;
        return size;
    }

    public int cut() {
        int had = size;
        size = 0;
        return had;
    }

    public int packet(int k) {
        if (k < 0 || k >= size) return BAD;
        return memory[PACKET_AREA * ENTRY_BYTES + k];
    }

    public boolean enter(int entry, int k, int v) {
        if (!isEntryByte(entry, k)) return false;
        int first = entry * ENTRY_BYTES;
        if (!isThere[entry]) {
            for (int b = 0; b < ENTRY_BYTES; b++) memory[first + b] = 0;
        }
        isThere[entry] = true;
        memory[first + k] = v & 255;
        return true;
    }

    public boolean drop(int entry) {
        if (!isEntryByte(entry, 0)) return false;
        boolean was = isThere[entry];
        isThere[entry] = false;
        return was;
    }

    public int entry(int entry, int k) {
        if (!isEntryByte(entry, k)) return BAD;
        return isThere[entry] ? memory[entry * ENTRY_BYTES + k] : BAD;
    }

    public int run() {
        if (!isVerified || wrong != 0) return BAD;
        beginRun();
        int i = 0;
        int done = 0;
        while (done < MOST_INSTRUCTIONS && i < count && opOf[i] != EXIT) {
            i = execute(i, done);
            done++;
        }
        ranCount = done + 1;
        ranLast = i;
        return value[0];
    }

    public int ran(int what) {
        if (what == 0) return ranCount;
        return what == 1 ? ranLast : BAD;
    }

    // ---- What an instruction may be

    private boolean isAsSaid(int op, int d, int s, int n, int to) {
        if (op < SET || op > EXIT) return false;
        boolean condition = isCondition(op);
        if ((op <= BACK || condition) && !isRegister(d)) return false;
        if (needsRegisterS(op) && !isRegister(s)) return false;
        if (takesX(op) && !isRegister(s) && (s != -1 || n < 0 || n > GREATEST)) return false;
        if (condition && s == d) return false;
        if ((op == JUMP || condition) && (to <= count || to >= MOST_INSTRUCTIONS)) return false;
        int top = greatestN(op);
        return top == NOT_USED || n >= 0 && n <= top;
    }

    private static int greatestN(int op) {
        if (op == SET) return GREATEST;
        if (op >= LOAD && op <= STORE2) return 255;
        return op == SAVE || op == BACK ? SLOTS - 1 : NOT_USED;
    }

    private static boolean isRegister(int r) {
        return r >= 0 && r < REGISTERS;
    }

    private static boolean isCondition(int op) {
        return op >= IF_EQUAL && op <= IF_BITS;
    }

    private static boolean takesX(int op) {
        return op >= ADD && op <= RIGHT || op >= IF_EQUAL && op <= IF_BITS;
    }

    private static boolean needsRegisterS(int op) {
        return op == MOVE || op >= LOAD && op <= STORE2;
    }

    private static boolean readsD(int op) {
        return op >= ADD && op <= RIGHT || op >= STORE && op <= SAVE || op >= IF_EQUAL && op <= IF_BITS;
    }

    private boolean isInstruction(int i) {
        return i >= 0 && i < count;
    }

    private static boolean isEntryByte(int e, int k) {
        return e >= 0 && e < ENTRIES && k >= 0 && k < ENTRY_BYTES;
    }

    // ---- Following the ways

    private void forgetWhatWasFound() {
        for (int c = 0; c < SEEN_CELLS; c++) seenKind[c] = NONE;
        for (int i = 0; i < MOST_INSTRUCTIONS; i++) {
            jumped[i] = false;
            stayed[i] = false;
        }
        wrong = 0;
        wrongAt = BAD;
    }

    private void beginFirstWay() {
        for (int w = 0; w < MOST_WAYS; w++) wayAt[w] = NONE;
        for (int c = 0; c < CELLS; c++) beginCell(c, UNSET);
        kind[1] = PACKET;
        kind[2] = END;
        wayAt[0] = 0;
        ways = 1;
    }

    private void follow(int w, int i) {
        int found = WRONG_NO_INSTRUCTION;
        if (i < count) {
            see(w, i);
            found = fault(w, i);
        }
        if (found != 0) {
            blame(found, i);
            return;
        }
        int op = opOf[i];
        wayAt[w] = i + 1;
        if (isCondition(op)) branch(w, i);
        else if (takesX(op)) calculate(w, i);
        else pass(w, i);
    }

    private void blame(int found, int i) {
        if (wrong == 0 || found < wrong) wrong = found;
        wrongAt = i;
    }

    private void see(int w, int i) {
        for (int r = 0; r < CELLS; r++) {
            int from = w * CELLS + r;
            int c = i * CELLS + r;
            if (seenKind[c] == NONE) {
                seenKind[c] = kind[from];
                seenLo[c] = lo[from];
                seenHi[c] = hi[from];
                seenZ[c] = z[from];
            } else {
                if (seenKind[c] != kind[from]) seenKind[c] = MIXED;
                seenLo[c] = lesser(seenLo[c], lo[from]);
                seenHi[c] = greater(seenHi[c], hi[from]);
                seenZ[c] = lesser(seenZ[c], z[from]);
            }
        }
    }

    private void branch(int w, int i) {
        // There is room: a condition at most doubles the ways, and there are at most five.
        if (ways < MOST_WAYS) {
            int other = ways;
            for (int r = 0; r < CELLS; r++) copyCell(w * CELLS + r, other * CELLS + r);
            if (narrow(other, i, true)) {
                wayAt[other] = toOf[i];
                ways++;
                jumped[i] = true;
            }
        }
        if (narrow(w, i, false)) stayed[i] = true;
        else wayAt[w] = NONE;
    }

    private void pass(int w, int i) {
        int first = w * CELLS;
        switch (opOf[i]) {
            case SET: makeNumber(first + dOf[i], nOf[i], nOf[i]); break;
            case MOVE: copyCell(first + sOf[i], first + dOf[i]); break;
            case LOAD: makeNumber(first + dOf[i], 0, 255); break;
            case LOAD2: makeNumber(first + dOf[i], 0, GREATEST); break;
            case SAVE: copyCell(first + dOf[i], first + REGISTERS + nOf[i]); break;
            case BACK: copyCell(first + REGISTERS + nOf[i], first + dOf[i]); break;
            case FIND:
                kind[first] = PERHAPS;
                origin[first] = i;
                unsetAfterCall(first);
                break;
            case SIZE:
                makeNumber(first, 0, MOST_BYTES);
                unsetAfterCall(first);
                break;
            case CLOCK:
                makeNumber(first, 0, MOST_INSTRUCTIONS - 1);
                unsetAfterCall(first);
                break;
            case JUMP: wayAt[w] = toOf[i]; break;
            case EXIT: wayAt[w] = NONE; break;
            default: break;
        }
    }

    private void calculate(int w, int i) {
        int x = w * CELLS + dOf[i];
        int y = cellOfX(w, i);
        if (kind[x] == NUMBER) {
            operate(opOf[i], x, y);
        } else if (sOf[i] < 0) {
            step[x] += opOf[i] == ADD ? nOf[i] : -nOf[i];
        } else {
            int zeros = lesser(z[x], z[y]);
            hold(x, lo[x] + lo[y], hi[x] + hi[y], zeros);
            origin[x] = i;
            reach[x] = REACHES_NOTHING;
        }
    }

    private void unsetAfterCall(int first) {
        kind[first + 1] = UNSET;
        kind[first + 2] = UNSET;
        kind[first + 3] = UNSET;
    }

    private int cellOfX(int w, int i) {
        if (sOf[i] >= 0) return w * CELLS + sOf[i];
        kind[CONSTANT] = NUMBER;
        hold(CONSTANT, nOf[i], nOf[i], 0);
        return CONSTANT;
    }

    private void makeNumber(int c, int low, int high) {
        kind[c] = NUMBER;
        hold(c, low, high, 0);
    }

    // The number 0 and a place that is not moved yet have the same range.
    private void beginCell(int c, int k) {
        kind[c] = k;
        lo[c] = 0;
        hi[c] = 0;
        z[c] = ALL_ZEROS;
        step[c] = 0;
        origin[c] = NONE;
        reach[c] = 0;
    }

    private void copyCell(int from, int into) {
        kind[into] = kind[from];
        lo[into] = lo[from];
        hi[into] = hi[from];
        z[into] = z[from];
        step[into] = step[from];
        origin[into] = origin[from];
        reach[into] = reach[from];
    }

    // ---- What is WRONG, the least first

    private int fault(int w, int i) {
        if (readsUnset(w, i)) return WRONG_UNSET;
        int first = w * CELLS;
        int op = opOf[i];
        if (op == FIND) return kind[first + 1] == NUMBER ? 0 : WRONG_KIND;
        if (op == EXIT) return kind[first] == NUMBER ? 0 : WRONG_KIND;
        if (op == LOAD || op == LOAD2) return faultOfTouch(first + sOf[i], i);
        if (op == STORE || op == STORE2) {
            return kind[first + sOf[i]] == NUMBER ? faultOfTouch(first + dOf[i], i) : WRONG_KIND;
        }
        if (op >= ADD && op <= RIGHT) return faultOfCalculation(w, i);
        return op >= IF_EQUAL && op <= IF_BITS ? faultOfCondition(w, i) : 0;
    }

    private boolean readsUnset(int w, int i) {
        int first = w * CELLS;
        int op = opOf[i];
        if (op == FIND) return kind[first + 1] == UNSET;
        if (op == EXIT) return kind[first] == UNSET;
        if (op == BACK) return kind[first + REGISTERS + nOf[i]] == UNSET;
        boolean readsS = needsRegisterS(op);
        if (takesX(op)) readsS = sOf[i] >= 0;
        return readsD(op) && kind[first + dOf[i]] == UNSET || readsS && kind[first + sOf[i]] == UNSET;
    }

    private int faultOfTouch(int c, int i) {
        if (kind[c] == PERHAPS) return WRONG_PERHAPS;
        if (kind[c] != PACKET && kind[c] != ENTRY) return WRONG_KIND;
        boolean two = opOf[i] == LOAD2 || opOf[i] == STORE2;
        int start = nOf[i] + step[c];
        int behind = start + (two ? 2 : 1);
        if (start + lo[c] < 0) return WRONG_BYTE;
        if (kind[c] == PACKET ? behind > reach[c] : behind + hi[c] > ENTRY_BYTES) return WRONG_BYTE;
        return two && ((start & 1) != 0 || z[c] == 0) ? WRONG_ODD : 0;
    }

    private int faultOfCalculation(int w, int i) {
        int x = w * CELLS + dOf[i];
        int y = cellOfX(w, i);
        if (kind[y] != NUMBER) return WRONG_KIND;
        if (kind[x] == NUMBER) return 0;
        boolean movesPlace = opOf[i] == ADD || opOf[i] == SUB && sOf[i] < 0;
        if (!movesPlace || kind[x] == END) return WRONG_KIND;
        if (kind[x] == PERHAPS) return WRONG_PERHAPS;
        int least = step[x] + lo[x] + (opOf[i] == ADD ? lo[y] : -lo[y]);
        int most = step[x] + hi[x] + (opOf[i] == ADD ? hi[y] : -hi[y]);
        return most > FARTHEST || least < -FARTHEST ? WRONG_BYTE : 0;
    }

    private int faultOfCondition(int w, int i) {
        int x = w * CELLS + dOf[i];
        int y = cellOfX(w, i);
        int op = opOf[i];
        if (kind[x] == NUMBER && kind[y] == NUMBER) return 0;
        if (kind[x] == PERHAPS && sOf[i] < 0 && nOf[i] == 0 && op <= IF_DIFFERENT) return 0;
        boolean withEnd = kind[x] == PACKET && kind[y] == END || kind[x] == END && kind[y] == PACKET;
        return withEnd && op >= IF_LESS && op <= IF_AT_LEAST ? 0 : WRONG_KIND;
    }

    // ---- What an operation makes of ranges

    private void operate(int op, int x, int y) {
        if (lo[x] == hi[x] && lo[y] == hi[y]) {
            int result = reckon(op, lo[x], lo[y]);
            hold(x, result, result, 0);
            return;
        }
        int lesserZ = lesser(z[x], z[y]);
        switch (op) {
            case ADD: addRange(x, y, lesserZ); break;
            case SUB: subtractRange(x, y, lesserZ); break;
            case MUL: multiplyRange(x, y); break;
            case DIV: divideRange(x, y); break;
            case MOD: modRange(x, y, lesserZ); break;
            case AND: andRange(x, y); break;
            case OR: orRange(x, y, lesserZ); break;
            case XOR: xorRange(x, y, lesserZ); break;
            case LEFT: leftRange(x, y); break;
            default: rightRange(x, y);
        }
    }

    private void addRange(int x, int y, int zeros) {
        int low = lo[x] + lo[y];
        int high = hi[x] + hi[y];
        if (high <= GREATEST) hold(x, low, high, zeros);
        else if (low > GREATEST) hold(x, low - 65536, high - 65536, zeros);
        else hold(x, 0, GREATEST, zeros);
    }

    private void subtractRange(int x, int y, int zeros) {
        int low = lo[x] - hi[y];
        int high = hi[x] - lo[y];
        if (low >= 0) hold(x, low, high, zeros);
        else if (high < 0) hold(x, low + 65536, high + 65536, zeros);
        else hold(x, 0, GREATEST, zeros);
    }

    private void multiplyRange(int x, int y) {
        int zeros = lesser(z[x] + z[y], ALL_ZEROS);
        long high = (long) hi[x] * hi[y];
        if (high > GREATEST) hold(x, 0, GREATEST, zeros);
        else hold(x, lo[x] * lo[y], (int) high, zeros);
    }

    private void divideRange(int x, int y) {
        int by = lo[y];
        if (by != hi[y]) hold(x, 0, hi[x], 0);
        else if (by == 0) hold(x, 0, 0, 0);
        else hold(x, lo[x] / by, hi[x] / by, 0);
    }

    private void modRange(int x, int y, int zeros) {
        int by = lo[y];
        if (by != hi[y]) hold(x, 0, hi[x], zeros);
        else if (by != 0 && hi[x] >= by) hold(x, 0, by - 1, zeros);
    }

    private void andRange(int x, int y) {
        int high = lesser(hi[x], hi[y]);
        int zeros = greater(z[x], z[y]);
        hold(x, 0, high, zeros);
    }

    private void orRange(int x, int y, int zeros) {
        int low = greater(lo[x], lo[y]);
        int high = ones(hi[x] | hi[y]);
        hold(x, low, high, zeros);
    }

    private void xorRange(int x, int y, int zeros) {
        int high = ones(hi[x] | hi[y]);
        hold(x, 0, high, zeros);
    }

    private void leftRange(int x, int y) {
        int by = lo[y];
        if (by != hi[y]) {
            hold(x, 0, GREATEST, z[x]);
        } else if (by >= 16) {
            hold(x, 0, 0, 0);
        } else {
            int zeros = lesser(z[x] + by, ALL_ZEROS);
            if (hi[x] << by > GREATEST) hold(x, 0, GREATEST, zeros);
            else hold(x, lo[x] << by, hi[x] << by, zeros);
        }
    }

    private void rightRange(int x, int y) {
        int by = lo[y];
        if (by != hi[y]) {
            hold(x, 0, hi[x], 0);
        } else if (by >= 16) {
            hold(x, 0, 0, 0);
        } else {
            int zeros = greater(z[x] - by, 0);
            hold(x, lo[x] >> by, hi[x] >> by, zeros);
        }
    }

    // Every range that is reckoned goes through here, so that it is always trimmed.
    private void hold(int c, int low, int high, int zeros) {
        int unit = 1 << zeros;
        lo[c] = (low + unit - 1) & -unit;
        hi[c] = high & -unit;
        z[c] = zeros;
        if (lo[c] == hi[c]) {
            int k = 0;
            while (k < ALL_ZEROS && (lo[c] >> k & 1) == 0) k++;
            z[c] = k;
        }
    }

    private static int ones(int v) {
        int result = 0;
        for (int k = 0; k < 16 && result < v; k++) result = result * 2 + 1;
        return result;
    }

    private static int lesser(int a, int b) {
        return a < b ? a : b;
    }

    private static int greater(int a, int b) {
        return a > b ? a : b;
    }

    // ---- What a condition leaves on one of its sides; false if that side is not gone

    private boolean narrow(int w, int i, boolean isSo) {
        int x = w * CELLS + dOf[i];
        int y = cellOfX(w, i);
        int relation = isSo ? opOf[i] : opposite(opOf[i]);
        if (kind[x] == PERHAPS) {
            settlePerhaps(w, origin[x], relation == IF_EQUAL);
            return true;
        }
        if (kind[x] == PACKET) {
            proveReach(w, x, relation == IF_LESS, relation == IF_AT_MOST);
            return true;
        }
        if (kind[x] == END) {
            proveReach(w, y, relation == IF_MORE, relation == IF_AT_LEAST);
            return true;
        }
        switch (relation) {
            case IF_EQUAL: return narrowEqual(x, y);
            case IF_DIFFERENT: return narrowDifferent(x, y);
            case IF_LESS: return narrowOrder(x, y, 1);
            case IF_AT_MOST: return narrowOrder(x, y, 0);
            case IF_MORE: return narrowOrder(y, x, 1);
            case IF_AT_LEAST: return narrowOrder(y, x, 0);
            case IF_BITS: return mayShareBits(x, y);
            default: return narrowNoBits(x, y);
        }
    }

    // The condition that is so where op is not; of IF_BITS none is, so it becomes NONE.
    private static int opposite(int op) {
        switch (op) {
            case IF_EQUAL: return IF_DIFFERENT;
            case IF_DIFFERENT: return IF_EQUAL;
            case IF_LESS: return IF_AT_LEAST;
            case IF_AT_MOST: return IF_MORE;
            case IF_MORE: return IF_AT_MOST;
            case IF_AT_LEAST: return IF_LESS;
            default: return NONE;
        }
    }

    private void settlePerhaps(int w, int from, boolean isNull) {
        for (int c = w * CELLS; c < (w + 1) * CELLS; c++) {
            if (kind[c] == PERHAPS && origin[c] == from) beginCell(c, isNull ? NUMBER : ENTRY);
        }
    }

    // What is known of the packet's end where the place in cell p is below it, or at most there, or neither.
    private void proveReach(int w, int p, boolean isBelow, boolean isAtMost) {
        if (!isBelow && !isAtMost) return;
        int from = origin[p];
        int least = step[p] + (isBelow ? 1 : 0);
        for (int c = w * CELLS; c < (w + 1) * CELLS; c++) {
            if (kind[c] == PACKET && origin[c] == from) reach[c] = greater(reach[c], least);
        }
    }

    private boolean narrowEqual(int x, int y) {
        int low = greater(lo[x], lo[y]);
        int high = lesser(hi[x], hi[y]);
        int zeros = greater(z[x], z[y]);
        hold(x, low, high, zeros);
        hold(y, low, high, zeros);
        return lo[x] <= hi[x];
    }

    private boolean narrowDifferent(int x, int y) {
        boolean isSingleX = lo[x] == hi[x];
        boolean isSingleY = lo[y] == hi[y];
        if (isSingleX && isSingleY) return lo[x] != lo[y];
        if (!isSingleX && !isSingleY) return true;
        int wide = isSingleX ? y : x;
        int without = isSingleX ? lo[x] : lo[y];
        int unit = 1 << z[wide];
        int low = lo[wide] == without ? without + unit : lo[wide];
        int high = hi[wide] == without ? without - unit : hi[wide];
        hold(wide, low, high, z[wide]);
        return true;
    }

    // x is less than y by gap at least.
    private boolean narrowOrder(int x, int y, int gap) {
        int high = lesser(hi[x], hi[y] - gap);
        int low = greater(lo[y], lo[x] + gap);
        hold(x, lo[x], high, z[x]);
        hold(y, low, hi[y], z[y]);
        return lo[x] <= hi[x] && lo[y] <= hi[y];
    }

    private boolean mayShareBits(int x, int y) {
        if (hi[x] == 0 || hi[y] == 0) return false;
        return lo[x] != hi[x] || lo[y] != hi[y] || (lo[x] & lo[y]) != 0;
    }

    private boolean narrowNoBits(int x, int y) {
        int mask = lo[y];
        if (mask != hi[y]) return true;
        if (lo[x] == hi[x]) return (lo[x] & mask) == 0;
        if (mask != 0 && (mask & mask + 1) == 0) {
            int k = 0;
            while (k < ALL_ZEROS && (mask >> k & 1) != 0) k++;
            int zeros = greater(z[x], k);
            hold(x, lo[x], hi[x], zeros);
        }
        return lo[x] <= hi[x];
    }

    // ---- Running

    private static int reckon(int op, int a, int b) {
        switch (op) {
            case ADD: return a + b & GREATEST;
            case SUB: return a - b & GREATEST;
            case MUL: return a * b & GREATEST;
            case DIV: return b == 0 ? 0 : a / b;
            case MOD: return b == 0 ? a : a % b;
            case AND: return a & b;
            case OR: return a | b;
            case XOR: return a ^ b;
            case LEFT: return b >= 16 ? 0 : a << b & GREATEST;
            default: return b >= 16 ? 0 : a >> b;
        }
    }

    private void beginRun() {
        for (int c = 0; c < CELLS; c++) giveNumber(c, 0);
        area[1] = PACKET_AREA;
        area[2] = PACKET_AREA;
        value[2] = size;
    }

    private int execute(int i, int done) {
        int op = opOf[i];
        int d = dOf[i];
        int s = sOf[i];
        int n = nOf[i];
        if (takesX(op)) return executeWithX(i, s < 0 ? n : value[s]);
        switch (op) {
            case SET: giveNumber(d, n); break;
            case MOVE: copyValue(s, d); break;
            case LOAD: case LOAD2: load(i); break;
            case STORE: case STORE2: store(i); break;
            case SAVE: copyValue(d, REGISTERS + n); break;
            case BACK: copyValue(REGISTERS + n, d); break;
            case FIND: find(); break;
            case SIZE: giveNumber(0, size); break;
            case CLOCK: giveNumber(0, done); break;
            default: break;
        }
        return op == JUMP ? toOf[i] : i + 1;
    }

    private int executeWithX(int i, int x) {
        int op = opOf[i];
        int d = dOf[i];
        if (isCondition(op)) return isSoNow(op, d, x) ? toOf[i] : i + 1;
        if (area[d] == NO_AREA) value[d] = reckon(op, value[d], x);
        else value[d] += op == ADD ? x : -x;
        return i + 1;
    }

    private void giveNumber(int c, int v) {
        area[c] = NO_AREA;
        value[c] = v;
    }

    private void copyValue(int from, int into) {
        area[into] = area[from];
        value[into] = value[from];
    }

    private void find() {
        int e = value[1];
        // NULL is the number 0, which no entry is, since an entry has an area.
        giveNumber(0, 0);
        if (e >= 0 && e < ENTRIES && isThere[e]) area[0] = e;
    }

    private boolean isSoNow(int op, int d, int x) {
        int v = value[d];
        switch (op) {
            // An entry is never NULL, whatever its place.
            case IF_EQUAL: return area[d] == NO_AREA && v == x;
            case IF_DIFFERENT: return area[d] != NO_AREA || v != x;
            case IF_LESS: return v < x;
            case IF_AT_MOST: return v <= x;
            case IF_MORE: return v > x;
            case IF_AT_LEAST: return v >= x;
            default: return (v & x) != 0;
        }
    }

    private void load(int i) {
        int from = area[sOf[i]];
        int at = value[sOf[i]] + nOf[i];
        int v = loadByte(from, at);
        if (opOf[i] == LOAD2) {
            int upper = loadByte(from, at + 1);
            v += upper << 8;
        }
        giveNumber(dOf[i], v);
    }

    private void store(int i) {
        int into = area[dOf[i]];
        int at = value[dOf[i]] + nOf[i];
        int v = value[sOf[i]];
        storeByte(into, at, v);
        if (opOf[i] == STORE2) storeByte(into, at + 1, v >> 8);
    }

    // verify() has seen to it that the byte is there; it is looked at again only so that no call can ever throw.
    private boolean isByte(int a, int at) {
        if (a < 0 || at < 0) return false;
        return at < (a == PACKET_AREA ? size : ENTRY_BYTES);
    }

    private int loadByte(int a, int at) {
        boolean there = isByte(a, at);
        return there ? memory[a * ENTRY_BYTES + at] : 0;
    }

    private void storeByte(int a, int at, int v) {
        boolean there = isByte(a, at);
        if (there) memory[a * ENTRY_BYTES + at] = v & 255;
    }
}
