/** A processor of 32 bits for user programs, over a memory of four pages with rights. */
public final class UserCore {
    public static final int NONE = -1;

    private static final int PAGES = 4;
    private static final int PAGE_BITS = 12;
    private static final int MEMORY_BYTES = PAGES << PAGE_BITS;
    private static final int REGISTERS = 32;
    private static final int MOST_STEPS = 2000;
    private static final int MOST_POKED = 8;

    private static final int MAY_LOAD = 1;
    private static final int MAY_STORE = 2;
    private static final int MAY_RUN = 4;
    private static final int ALL_RIGHTS = 7;

    private static final int TRAP_CROOKED_PC = 0;
    private static final int TRAP_UNKNOWN_WORD = 2;
    private static final int TRAP_BREAK = 3;
    private static final int TRAP_CROOKED_LOAD = 4;
    private static final int TRAP_CROOKED_STORE = 6;
    private static final int TRAP_CALL = 8;
    private static final int TRAP_NO_RUN = 12;
    private static final int TRAP_NO_LOAD = 13;
    private static final int TRAP_NO_STORE = 15;

    private static final int CALL_WORD = 115;
    private static final int BREAK_WORD = 1048691;

    // Words and not bytes: a quarter of the elements, and a step's word is one look.
    private final int[] words;
    private final int[] rights;
    private final int[] registers;
    private int pc;
    private int trap;
    private int value;
    private int done;

    public UserCore() {
        words = new int[MEMORY_BYTES / 4];
        rights = new int[] {ALL_RIGHTS, ALL_RIGHTS, ALL_RIGHTS, ALL_RIGHTS};
        registers = new int[REGISTERS];
        pc = 0;
        trap = NONE;
        value = 0;
        done = 0;
    }

    public boolean poke(int address, int n, long bytes) {
        if (n < 1 || n > MOST_POKED) {
            return false;
        }
        // address + n could wrap, so the room is taken off the other side.
        if (address < 0 || address > MEMORY_BYTES - n) {
            return false;
        }
        putBytes(address, n, bytes);
        return true;
    }

    public int peek(int address) {
        if (!isInPages(address)) {
            return NONE;
        }
        return bytesFrom(address) & 255;
    }

    public boolean protect(int page, int rights) {
        if (page < 0 || page >= PAGES || rights < 0 || rights > ALL_RIGHTS) {
            return false;
        }
        this.rights[page] = rights;
        return true;
    }

    public boolean set(int k, int v) {
        if (!isRegister(k)) {
            return false;
        }
        putRegister(k, v);
        return true;
    }

    public int register(int k) {
        return isRegister(k) ? registers[k] : 0;
    }

    public void jump(int address) {
        pc = address;
    }

    public int pc() {
        return pc;
    }

    public int run(int n) throws IllegalArgumentException {
        if (n < 0 || n > MOST_STEPS) {
            throw new IllegalArgumentException("n is not 0 .. 2000");
        }
        trap = NONE;
        value = 0;
        int steps = 0;
        for (int i = 0; i < n; i++) {
            if (!makeStep()) {
                break;
            }
            steps++;
        }
        done += steps;
        return steps;
    }

    public int trap() {
        return trap;
    }

    public int value() {
        return value;
    }

    public int done() {
        return done;
    }

    // ---- Steps: each of these answers whether the step was done, and false after a trap.

    private boolean makeStep() {
        if (isCrooked(pc, 4)) {
            return trapWith(TRAP_CROOKED_PC, pc);
        }
        if (!hasRight(pc, MAY_RUN)) {
            return trapWith(TRAP_NO_RUN, pc);
        }
        return execute(words[pc >>> 2]);
    }

    private boolean execute(int w) {
        switch (w & 127) {
            case 55:
                return finish(w, upperImmediate(w));
            case 23:
                return finish(w, pc + upperImmediate(w));
            case 111:
                return linkAndGo(w, pc + jumpImmediate(w));
            case 103:
                return goToRegister(w);
            case 99:
                return branch(w);
            case 3:
                return load(w);
            case 35:
                return store(w);
            case 19:
                return computeWithImmediate(w);
            case 51:
                return computeWithRegisters(w);
            case 15:
                return fence(w);
            case 115:
                return callOrBreak(w);
            default:
                return refuse(w);
        }
    }

    private boolean goToRegister(int w) {
        if (partF(w) != 0) {
            return refuse(w);
        }
        return linkAndGo(w, (registerA(w) + lowImmediate(w)) & ~1);
    }

    private boolean branch(int w) {
        int f = partF(w);
        if (f == 2 || f == 3) {
            return refuse(w);
        }
        // An odd f asks for the contrary of the even f below it.
        boolean isContrary = (f & 1) == 1;
        boolean goes = compare(f & 6, registerA(w), registerB(w)) != isContrary;
        int target = goes ? pc + branchImmediate(w) : pc + 4;
        if (isCrooked(target, 4)) {
            return trapWith(TRAP_CROOKED_PC, target);
        }
        pc = target;
        return true;
    }

    private boolean load(int w) {
        int f = partF(w);
        if (f == 3 || f > 5) {
            return refuse(w);
        }
        int address = registerA(w) + lowImmediate(w);
        if (isCrooked(address, 1 << (f & 3))) {
            return trapWith(TRAP_CROOKED_LOAD, address);
        }
        if (!hasRight(address, MAY_LOAD)) {
            return trapWith(TRAP_NO_LOAD, address);
        }
        return finish(w, narrow(f, bytesFrom(address)));
    }

    private boolean store(int w) {
        int f = partF(w);
        if (f > 2) {
            return refuse(w);
        }
        int address = registerA(w) + storeImmediate(w);
        int n = 1 << f;
        if (isCrooked(address, n)) {
            return trapWith(TRAP_CROOKED_STORE, address);
        }
        if (!hasRight(address, MAY_STORE)) {
            return trapWith(TRAP_NO_STORE, address);
        }
        putBytes(address, n, registerB(w));
        pc += 4;
        return true;
    }

    private boolean computeWithImmediate(int w) {
        int f = partF(w);
        int g = partG(w);
        if (f == 5 && g == 32) {
            return finish(w, registerA(w) >> partB(w));
        }
        if ((f == 1 || f == 5) && g != 0) {
            return refuse(w);
        }
        // With g 0 the immediate of a shift is b itself.
        return finish(w, compute(f, registerA(w), lowImmediate(w)));
    }

    private boolean computeWithRegisters(int w) {
        int f = partF(w);
        int p = registerA(w);
        int q = registerB(w);
        switch (partG(w)) {
            case 0:
                return finish(w, compute(f, p, q));
            case 1:
                return finish(w, multiplyOrDivide(f, p, q));
            case 32:
                if (f == 0) {
                    return finish(w, p - q);
                }
                return f == 5 ? finish(w, p >> (q & 31)) : refuse(w);
            default:
                return refuse(w);
        }
    }

    private boolean fence(int w) {
        if (partF(w) != 0) {
            return refuse(w);
        }
        pc += 4;
        return true;
    }

    private boolean callOrBreak(int w) {
        if (w == CALL_WORD) {
            return trapWith(TRAP_CALL, 0);
        }
        return w == BREAK_WORD ? trapWith(TRAP_BREAK, 0) : refuse(w);
    }

    // ---- How a step ends.

    private boolean finish(int w, int result) {
        putRegister(partD(w), result);
        pc += 4;
        return true;
    }

    private boolean linkAndGo(int w, int target) {
        // Looked at before xd is written: a trap leaves the registers as they were.
        if (isCrooked(target, 4)) {
            return trapWith(TRAP_CROOKED_PC, target);
        }
        putRegister(partD(w), pc + 4);
        pc = target;
        return true;
    }

    private boolean refuse(int w) {
        return trapWith(TRAP_UNKNOWN_WORD, w);
    }

    private boolean trapWith(int kind, int about) {
        trap = kind;
        value = about;
        return false;
    }

    // ---- Registers.

    private static boolean isRegister(int k) {
        return k >= 0 && k < REGISTERS;
    }

    private void putRegister(int k, int v) {
        if (k > 0 && k < REGISTERS) {
            registers[k] = v;
        }
    }

    private int registerA(int w) {
        return registers[(w >>> 15) & 31];
    }

    private int registerB(int w) {
        return registers[partB(w)];
    }

    // ---- Memory.

    private static boolean isInPages(int address) {
        return address >= 0 && address < MEMORY_BYTES;
    }

    private static boolean isCrooked(int address, int n) {
        return (address & (n - 1)) != 0;
    }

    private boolean hasRight(int address, int right) {
        return isInPages(address) && (rights[address >>> PAGE_BITS] & right) != 0;
    }

    /** The rest of a word from an address in the pages, which its caller has looked at. */
    private int bytesFrom(int address) {
        return words[address >>> 2] >>> ((address & 3) * 8);
    }

    /** Callers have seen that all n addresses are in the pages. */
    private void putBytes(int address, int n, long bytes) {
        for (int i = 0; i < n; i++) {
            int at = address + i;
            int shift = (at & 3) * 8;
            int b = (int) (bytes >>> (8 * i)) & 255;
            words[at >>> 2] = (words[at >>> 2] & ~(255 << shift)) | (b << shift);
        }
    }

    // ---- Whole numbers.

    private static long unsigned(int v) {
        return v & 0xFFFFFFFFL;
    }

    private static boolean compare(int f, int p, int q) {
        switch (f) {
            case 0:
                return p == q;
            case 4:
                return p < q;
            default:
                return unsigned(p) < unsigned(q);
        }
    }

    private static int narrow(int f, int bytes) {
        switch (f) {
            case 0:
                return (byte) bytes;
            case 1:
                return (short) bytes;
            case 4:
                return bytes & 255;
            case 5:
                return bytes & 65535;
            default:
                return bytes;
        }
    }

    private static int compute(int f, int p, int q) {
        switch (f) {
            case 0:
                return p + q;
            case 1:
                return p << (q & 31);
            case 2:
                return p < q ? 1 : 0;
            case 3:
                return unsigned(p) < unsigned(q) ? 1 : 0;
            case 4:
                return p ^ q;
            case 5:
                return p >>> (q & 31);
            case 6:
                return p | q;
            default:
                return p & q;
        }
    }

    private static int multiplyOrDivide(int f, int p, int q) {
        switch (f) {
            case 0:
                return p * q;
            case 1:
                return upperHalf((long) p * (long) q);
            case 2:
                return upperHalf((long) p * unsigned(q));
            case 3:
                // This product may wrap as a long; its 64 bits are right all the same.
                return upperHalf(unsigned(p) * unsigned(q));
            default:
                return divide(f, p, q);
        }
    }

    private static int upperHalf(long product) {
        return (int) (product >>> 32);
    }

    private static int divide(int f, int p, int q) {
        if (q == 0) {
            return f < 6 ? -1 : p;
        }
        switch (f) {
            case 4:
                // Java's own wrap makes the least int by -1 itself, with 0 left.
                return p / q;
            case 5:
                return (int) (unsigned(p) / unsigned(q));
            case 6:
                return p % q;
            default:
                return (int) (unsigned(p) % unsigned(q));
        }
    }

    // ---- The parts of a word.

    private static int partD(int w) {
        return (w >>> 7) & 31;
    }

    private static int partF(int w) {
        return (w >>> 12) & 7;
    }

    private static int partB(int w) {
        return (w >>> 20) & 31;
    }

    private static int partG(int w) {
        return w >>> 25;
    }

    // ---- Immediates: I, S, B, U and J of the document, in this order.

    private static int lowImmediate(int w) {
        return w >> 20;
    }

    private static int storeImmediate(int w) {
        return ((w >> 25) << 5) | partD(w);
    }

    private static int branchImmediate(int w) {
        return ((w >> 31) << 12) | (((w >>> 7) & 1) << 11)
            | (((w >>> 25) & 63) << 5) | (((w >>> 8) & 15) << 1);
    }

    private static int upperImmediate(int w) {
        return (w >>> 12) << 12;
    }

    private static int jumpImmediate(int w) {
        return ((w >> 31) << 20) | (((w >>> 12) & 255) << 12)
            | (((w >>> 20) & 1) << 11) | (((w >>> 21) & 1023) << 1);
    }
}
