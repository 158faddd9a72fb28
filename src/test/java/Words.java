/** Makes instruction words from their parts, and cores that have them in memory. */
final class Words {
    static final int CALL = 115;
    static final int BREAK = 1048691;
    /** xd = xa + I with all parts 0: a step that changes nothing but PC. */
    static final int IDLE = 19;

    private Words() {
    }

    static int r(int op, int f, int g, int d, int a, int b) {
        return op | d << 7 | f << 12 | a << 15 | b << 20 | g << 25;
    }

    static int i(int op, int f, int d, int a, int immediate) {
        return op | d << 7 | f << 12 | a << 15 | immediate << 20;
    }

    static int s(int f, int a, int b, int immediate) {
        return r(35, f, immediate >> 5 & 127, immediate & 31, a, b);
    }

    static int b(int f, int a, int b, int offset) {
        int g = (offset >> 12 & 1) << 6 | offset >> 5 & 63;
        int d = (offset >> 1 & 15) << 1 | offset >> 11 & 1;
        return r(99, f, g, d, a, b);
    }

    static int u(int op, int d, int immediate) {
        return op | d << 7 | immediate & 0xFFFFF000;
    }

    static int j(int d, int offset) {
        return 111 | d << 7 | (offset >> 20 & 1) << 31 | (offset >> 12 & 255) << 12
            | (offset >> 11 & 1) << 20 | (offset >> 1 & 1023) << 21;
    }

    static UserCore coreAt(int address, int... words) {
        UserCore core = new UserCore();
        for (int k = 0; k < words.length; k++) {
            core.poke(address + 4 * k, 4, words[k]);
        }
        core.jump(address);
        return core;
    }

    /** Makes one step of a word at 0 with x1 = p and x2 = q, and gives the core behind it. */
    static UserCore stepped(int w, int p, int q) {
        UserCore core = coreAt(0, w);
        core.set(1, p);
        core.set(2, q);
        core.run(1);
        return core;
    }
}
